/** Terms 3 (SEEN, ASK), promises 36 to 38: a check for each edge that they name; refusals are in RefusedTest. */
public final class SeenEdgeTest {
    private static final Check CHECK = new Check("SeenEdgeTest");
    private static final String ALONE = "guest a wish 20 bears 20 dear 0;";

    public static void main(String[] args) {
        resolvesAndWishes();
        firstCouple();
        howManyAreThere();
        twos();
        numbersThatCannotBe();
        ofOneGone();
        asked();
        fewerThanTwo();
        CHECK.end();
    }

    private static LoafTable shown(String table, int... numbers) {
        LoafTable x = Check.laid(table);
        x.tray(0, 3, numbers.length);
        for (int i = 0; i < numbers.length; i++) {
            x.write(0, i, numbers[i]);
        }
        return x;
    }

    /** Alone and without bread he is GONE behind d DAYS if his WISH and d - 1 are RESOLVE and more together. */
    private static int goneBehind(int days) {
        int couples = 0;
        for (int resolve = 1; resolve <= 9; resolve++) {
            for (int wish = 0; wish <= 9; wish++) {
                couples += days > 0 && wish + days - 1 >= resolve ? 1 : 0;
            }
        }
        return couples;
    }

    /** "a RESOLVE (1 to 9) and a WISH (0 to 9)", in DAYS 0 to 20. */
    private static void resolvesAndWishes() {
        CHECK.due("all couples", shown(ALONE).seen(0, 0, 0), 90);
        for (int days = 0; days <= 20; days++) {
            LoafTable gone = shown(ALONE, days, 0);
            CHECK.due("GONE behind " + days + " DAYS", gone.seen(0, 0, 1), goneBehind(days));
            CHECK.due("STATUS", gone.status(), 0);
            LoafTable there = shown(ALONE, days, 1);
            CHECK.due("THERE behind " + days + " DAYS", there.seen(0, 0, 1), 90 - goneBehind(days));
        }
        for (int days = 1; days <= 19; days++) {
            LoafTable then = shown(ALONE, days, 1, days + 1, 0);
            CHECK.due("on DAY " + (days + 1), then.seen(0, 0, 2), goneBehind(days + 1) - goneBehind(days));
        }
        LoafTable x = shown(ALONE, 0, 1);
        x.rule(2, 20);
        CHECK.due("whatever his WISH and RESOLVE are now", x.seen(0, 0, 1), 90);
        CHECK.due("WISH stays", x.guest(0, 0), 20);
        CHECK.due("RESOLVE stays", x.told(2), 20);
    }

    /** "the first by RESOLVES, then WISHES". */
    private static void firstCouple() {
        first(shown(ALONE), 0, 1, 0);
        first(shown(ALONE, 1, 0), 1, 1, 1);
        first(shown(ALONE, 1, 1), 1, 1, 0);
        first(shown(ALONE, 2, 1), 1, 2, 0);
        first(shown(ALONE, 9, 1), 1, 9, 0);
        first(shown(ALONE, 8, 1, 9, 0), 2, 8, 0);
        // SLICES for four DAYS: who is GONE behind five has a WISH of RESOLVE and more
        first(shown("slices 4;" + ALONE, 4, 1, 5, 0), 2, 1, 1);
        LoafTable none = shown(ALONE, 10, 1);
        CHECK.due("nobody is THERE so long", none.seen(0, 0, 1), 0);
        CHECK.due("STATUS of none", none.status(), 0);
        CHECK.none("no first RESOLVE", none, none.seenAs(0, 0, 1, 0), 6);
        CHECK.none("no first WISH", none, none.seenAs(0, 0, 1, 1), 6);
    }

    private static void first(LoafTable x, int n, int resolve, int wish) {
        CHECK.due("RESOLVE", x.seenAs(0, 0, n, 0), resolve);
        CHECK.due("STATUS", x.status(), 0);
        CHECK.due("WISH", x.seenAs(0, 0, n, 1), wish);
        CHECK.due("STATUS", x.status(), 0);
    }

    /** "how many are THERE (0 to 7)". */
    private static void howManyAreThere() {
        StringBuilder text = new StringBuilder("loaf 60;slices 60;");
        for (int there = 0; there <= 7; there++) {
            for (int told = 0; told <= 7; told++) {
                LoafTable x = Check.laid(text.toString());
                // one more who is looked at is needed where nobody is THERE
                if (there == 0) {
                    x = Check.laid("guest a wish 0 bears 0 dear 0;");
                    x.cut(0);
                }
                x.tray(1, 0, 2);
                x.write(1, 1, told);
                CHECK.due(there + " THERE, told " + told, x.seen(0, 1, 1), there == told ? 90 : 0);
                CHECK.due("STATUS", x.status(), 0);
            }
            text.append("guest ").append((char) ('a' + there)).append(" wish 0 bears 0 dear 0;");
        }
    }

    /** "the first n (0 to 20) twos": numbers enough for them, no more are looked at. */
    private static void twos() {
        LoafTable none = Check.laid(ALONE);
        none.tray(2, 0, 0);
        CHECK.due("no twos of no numbers", none.seen(0, 2, 0), 90);
        CHECK.none("one of no numbers", none, none.seen(0, 2, 1), 3);
        LoafTable x = Check.laid(ALONE);
        for (int n = 1; n <= 20; n++) {
            x.tray(0, 1, 2 * n - 1);
            CHECK.none("one number too few for " + n, x, x.seen(0, 0, n), 3);
            x.tray(0, 1, 2 * n);
            for (int i = 0; i < n; i++) {
                x.write(0, 2 * i + 1, 1);
            }
            CHECK.due("just enough for " + n, x.seen(0, 0, n), 90);
            CHECK.due("the last of " + n + " is looked at", x.write(0, 2 * n - 1, 0), true);
            CHECK.due("nobody is THERE now", x.seen(0, 0, n), 0);
            x.write(0, 2 * n - 1, 8);
            CHECK.none("the last of " + n + " can't be", x, x.seen(0, 0, n), 5);
            x.write(0, 2 * n - 1, 1);
            x.write(0, 2 * n - 2, 21);
            CHECK.none("nor its DAYS", x, x.seen(0, 0, n), 5);
        }
        LoafTable y = Check.laid(ALONE);
        y.tray(0, 0, 60);
        for (int i = 0; i < 60; i++) {
            y.write(0, i, i < 40 ? i % 2 : -1);
        }
        CHECK.due("what is behind 20 is not looked at", y.seen(0, 0, 20), 90);
        CHECK.none("21", y, y.seen(0, 0, 21), 1);
        y.write(0, 4, 21);
        CHECK.due("the first two of them", y.seen(0, 0, 2), 90);
        CHECK.due("their first couple", y.seenAs(0, 0, 2, 0), 1);
        CHECK.due("their DAYS to ask", y.ask(0, 0, 2), 1);
        CHECK.none("the third can't be", y, y.seen(0, 0, 3), 5);
        CHECK.none("nor its first couple", y, y.seenAs(0, 0, 3, 0), 5);
        CHECK.none("nor its DAYS", y, y.ask(0, 0, 3), 5);
    }

    /** "5 a number in a TRAY that can't be": DAYS 0 to 20, THERE 0 to 7, by numbers of 64 bits. */
    private static void numbersThatCannotBe() {
        LoafTable x = shown(ALONE, 0, 1, 0, 1);
        long[] days = {-1, 21, 1L << 32, (1L << 32) + 1, 1L << 63, Long.MAX_VALUE, 256, 65536};
        for (long wrong : days) {
            x.write(0, 2, wrong);
            CHECK.none("DAYS " + wrong, x, x.seen(0, 0, 2), 5);
        }
        x.write(0, 2, 20);
        CHECK.due("DAYS 20: nobody is THERE then", x.seen(0, 0, 2), 0);
        CHECK.due("STATUS", x.status(), 0);
        x.write(0, 2, 0);
        long[] there = {-1, 8, 1L << 32, (1L << 32) + 1, 1L << 63, Long.MAX_VALUE, 257, 65537};
        for (long wrong : there) {
            x.write(0, 3, wrong);
            CHECK.none("THERE " + wrong, x, x.seen(0, 0, 2), 5);
        }
        x.write(0, 3, 7);
        CHECK.due("THERE 7: more than there are", x.seen(0, 0, 2), 0);
        CHECK.due("STATUS", x.status(), 0);
        x.write(0, 3, 1);
        CHECK.due("all couples", x.seen(0, 0, 2), 90);
        x.write(0, 0, 5);
        x.write(0, 1, 0);
        x.write(0, 3, 8);
        CHECK.none("ahead of that there is none", x, x.seenAs(0, 0, 2, 0), 5);
    }

    /** His WISH is nothing to others as he is GONE, RESOLVE is. */
    private static void ofOneGone() {
        LoafTable x = shown("loaf 60;guest a wish 0 bears 0 dear 0;guest b wish 4 bears 0 dear 0;", 1, 0);
        x.rule(2, 20);
        x.bake(1);
        x.cut(0);
        x.day(1);
        CHECK.due("b is THERE, there are no SLICES", x.told(8) * 10 + x.told(5), 20);
        // b took the SLICE: a WISH of 4 still; he goes by a RESOLVE of 1 to 4
        CHECK.due("by four of nine RESOLVES", x.seen(0, 0, 1), 40);
        CHECK.due("the first", x.seenAs(0, 0, 1, 0) * 100 + x.seenAs(0, 0, 1, 1), 100);
    }

    /** "the DAYS (0 to 20) by which these couples are parted the best ..; of several the least". */
    private static void asked() {
        LoafTable x = shown(ALONE);
        CHECK.due("45 and 45 by a DAY", x.ask(0, 0, 0), 1);
        CHECK.due("STATUS", x.status(), 0);
        for (int slices = 1; slices <= 19; slices++) {
            LoafTable y = shown("slices " + slices + ";" + ALONE);
            CHECK.due("bread for " + slices + " DAYS", y.ask(0, 0, 0), slices + 1);
        }
        LoafTable z = shown("slices 20;" + ALONE);
        CHECK.due("bread for all DAYS: none parts them, the least", z.ask(0, 0, 0), 0);
        CHECK.due("STATUS", z.status(), 0);
        StringBuilder seven = new StringBuilder("loaf 60;slices 56;");
        for (int i = 0; i < 7; i++) {
            seven.append("guest n").append((char) ('a' + i)).append(" wish 0 bears 20 dear 0;");
        }
        LoafTable v = shown(seven.toString());
        for (int guest = 0; guest < 7; guest++) {
            CHECK.due("seven to the eighth DAY, then six of 45 couples", v.ask(guest, 0, 0), 9);
        }
        CHECK.due("all seven are counted", v.seen(6, 0, 0), 90);
        CHECK.due("once more", v.ask(6, 0, 0), 9);
        // 45 couples of a RESOLVE above the WISH by 1 to 9: 9, 8, .. 1 of them; 24 are GONE behind four DAYS
        LoafTable w = shown(ALONE, 1, 1);
        CHECK.due("45 and 45 ahead of it", w.ask(0, 0, 0), 1);
        CHECK.due("24 and 21", w.ask(0, 0, 1), 4);
        CHECK.due("45 and 45 again", w.ask(0, 0, 0), 1);
        w.seen(0, 0, 0);
        w.seenAs(0, 0, 0, 0);
        CHECK.due("24 and 21 again", w.ask(0, 0, 1), 4);
        LoafTable u = shown("slices 20;" + ALONE);
        CHECK.due("ninety there, ninety there: none parts them", u.ask(0, 0, 0), 0);
        Check.table(u, seven.toString());
        CHECK.due("seven of another TABLE", u.ask(0, 0, 0), 9);
        Check.table(u, "slices 19;" + ALONE);
        CHECK.due("the twentieth DAY", u.ask(0, 0, 0), 20);
        Check.table(u, seven.toString());
        CHECK.due("seven again", u.ask(0, 0, 0), 9);
    }

    /** "(6: fewer than two)". */
    private static void fewerThanTwo() {
        LoafTable none = shown(ALONE, 10, 1);
        CHECK.none("none", none, none.ask(0, 0, 1), 6);
        LoafTable one = shown(ALONE, 9, 1);
        CHECK.due("one", one.seen(0, 0, 1), 1);
        CHECK.none("one", one, one.ask(0, 0, 1), 6);
        LoafTable two = shown(ALONE, 8, 1, 9, 0);
        CHECK.due("two", two.seen(0, 0, 2), 2);
        CHECK.due("that can't be parted", two.ask(0, 0, 2), 0);
        CHECK.due("STATUS", two.status(), 0);
        LoafTable three = shown(ALONE, 8, 1);
        CHECK.due("three", three.seen(0, 0, 1), 3);
        CHECK.due("two and one by the ninth", three.ask(0, 0, 1), 9);
    }
}
