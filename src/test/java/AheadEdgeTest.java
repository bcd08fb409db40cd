/** Terms 3 (days ahead, plans), promises 26 to 35: a check for each edge that they name; refusals are in RefusedTest. */
public final class AheadEdgeTest {
    private static final Check CHECK = new Check("AheadEdgeTest");

    public static void main(String[] args) {
        asDaysGoBy();
        beyondTheLastDay();
        nextFirstAndLatest();
        hangs();
        starvingFirstAndLatest();
        leastAndMostLoaf();
        leastBehindEachDay();
        planDays();
        planAsSlicesAllow();
        planFirstRow();
        planStarves();
        CHECK.end();
    }

    private static LoafTable late() {
        LoafTable x = new LoafTable();
        for (int i = 0; i < 10; i++) {
            x.day(999);
        }
        x.day(9);
        return x;
    }

    /** "In n DAYS: as only DAYS go by", n 0 to 99, each held against so many DAYS that do. */
    private static void asDaysGoBy() {
        for (String text : new String[] {Made.FOUR, DoTest.LONG_TABLE, "slices 60;" + Made.FOUR}) {
            LoafTable x = Check.laid(text);
            LoafTable y = Check.laid(text);
            for (int days = 0; days <= 99; days++) {
                CHECK.due("thereIn(" + days + ")", x.thereIn(days), y.told(8));
                CHECK.due("its status", x.status(), 0);
                y.day(1);
            }
            LoafTable z = Check.laid(text);
            LoafTable w = Check.laid(text);
            for (int days = 0; days <= 99; days++) {
                CHECK.due("slicesIn(" + days + ")", z.slicesIn(days), w.told(5));
                CHECK.due("guestIn(3, " + days + ", 0)", z.guestIn(3, days, 0), w.guest(3, 0));
                w.day(1);
            }
            LoafTable u = Check.laid(text);
            LoafTable v = Check.laid(text);
            for (int days = 0; days <= 99; days++) {
                CHECK.due("guestIn(1, " + days + ", 1)", u.guestIn(1, days, 1), v.guest(1, 4));
                CHECK.due("of one who GOES", u.guestIn(2, days, 1), v.guest(2, 4));
                v.day(1);
            }
        }
    }

    /** "(beyond 9,999, too)". */
    private static void beyondTheLastDay() {
        LoafTable x = late();
        x.bake(3);
        x.rule(2, 9);
        CHECK.due("a", x.sit(9, 1, 5, 0), 0);
        CHECK.due("b", x.sit(0, 1, 3, 1), 1);
        CHECK.due("DAY", x.told(6), 9999);
        CHECK.none("no DAY goes by", x, x.day(1), 7);
        // a goes on the first day; b eats for three, hungers on the fourth and fifth, starves by the second of these
        CHECK.due("thereIn(0)", x.thereIn(0), 3);
        CHECK.due("thereIn(1)", x.thereIn(1), 2);
        CHECK.due("slicesIn(1)", x.slicesIn(1), 2);
        CHECK.due("slicesIn(3)", x.slicesIn(3), 0);
        CHECK.due("guestIn(1, 4, 1)", x.guestIn(1, 4, 1), 1);
        CHECK.due("guestIn(1, 5, 0)", x.guestIn(1, 5, 0), 2);
        CHECK.due("next()", x.next(), 1);
        CHECK.due("nextBy()", x.nextBy(), 0);
        CHECK.due("hangs()", x.hangs(), 1);
        CHECK.due("starving()", x.starving(), 5);
        CHECK.due("least(4)", x.least(4), 3);
        CHECK.due("plan(5)", x.plan(5), 0);
        CHECK.due("planAt(5, 0): a hungers for a day, b, too", x.planAt(5, 0), 2);
        CHECK.due("planAt(5, 1): b cuts and stays", x.planAt(5, 1), 1);
        x.tray(0, 0, 2);
        x.write(0, 0, 20);
        x.write(0, 1, 2);
        CHECK.due("seen()", x.seen(0, 0, 1) >= 0, true);
        CHECK.due("ask()", x.ask(0, 0, 0) >= 0, true);
        CHECK.due("game()", x.game(0, 1, 1), 1);
        CHECK.due("DAY stays", x.told(6), 9999);
        x.table(0);
        CHECK.due("DAY 0 by a TABLE", x.told(6), 0);
        CHECK.due("days go by again", x.day(999), 0);
    }

    /** "in how many DAYS (1 to 99)": at once, and the latest there can be: bread for 60 DAYS, 20 of HUNGER, then. */
    private static void nextFirstAndLatest() {
        for (int slices = 0; slices <= 60; slices++) {
            LoafTable x = Check.laid("slices " + slices + ";guest a wish 5 bears 0 dear 0;");
            CHECK.due("a WISH of RESOLVE, SLICES " + slices, x.next(), slices + 1);
            CHECK.due("STATUS", x.status(), 0);
            CHECK.due("by him", x.nextBy(), 0);
        }
        for (int resolve = 1; resolve <= 20; resolve++) {
            LoafTable x = Check.laid("resolve " + resolve + ";slices 60;guest a wish 0 bears 0 dear 0;");
            CHECK.due("a WISH of 0, RESOLVE " + resolve, x.next(), 61 + resolve);
        }
        LoafTable x = Check.laid("slices 7;guest a wish 5 bears 0 dear 0;guest b wish 6 bears 0 dear 0;");
        CHECK.due("the second, who took no SLICE on DAY 4", x.next() * 10 + x.nextBy(), 51);
        x.sway(0, 8);
        CHECK.due("the first", x.next() * 10 + x.nextBy(), 50);
        x.sway(0, 7);
        CHECK.due("of two the first", x.next() * 10 + x.nextBy(), 50);
        x.cut(0);
        CHECK.due("no CUT while there are SLICES", x.told(8), 3);
        x.day(5);
        CHECK.due("the second is left", x.told(8), 2);
        CHECK.due("8 SLICES, one taken", x.next() * 10 + x.nextBy(), 81);
    }

    /** "who is THERE so that, if he alone was GONE now, NEXT, or by whom, would be otherwise". */
    private static void hangs() {
        LoafTable none = new LoafTable();
        CHECK.due("nobody", none.hangs(), 0);
        CHECK.due("STATUS", none.status(), 0);
        LoafTable one = Check.laid("guest a wish 0 bears 0 dear 0;");
        CHECK.due("without the only one there is none", one.hangs(), 1);
        one.cut(0);
        CHECK.due("of one who is GONE nothing hangs", one.hangs(), 0);
        CHECK.due("STATUS", one.status(), 0);
        LoafTable x = Check.laid("slices 6;guest a wish 9 bears 0 dear 0;guest b wish 0 bears 0 dear 0;guest c wish 0 bears 0 dear 0;");
        // six slices are two days of three, three days of two: a on day 3; without b or c on day 4; without a c, b hunger
        CHECK.due("on all", x.hangs(), 7);
        LoafTable y = Check.laid("guest a wish 9 bears 0 dear 0;guest b wish 9 bears 0 dear 0;guest c wish 0 bears 0 dear 0;");
        CHECK.due("without the first the second does, as soon", y.hangs(), 1);
        LoafTable z = Check.laid("resolve 4;press 1;slices 60;guest a wish 0 bears 0 dear 0;guest b wish 0 bears 0 dear 0 stays;"
            + "guest c wish 0 bears 0 dear 0;guest d wish 0 bears 0 dear 0;butter b c;");
        // 15 days of bread for four; c, pressed, has a wish of 15 then; without b nobody is pressed, without c it is a
        CHECK.due("NEXT", z.next() * 10 + z.nextBy(), 162);
        CHECK.due("on all: the bread, too", z.hangs(), 15);
    }

    /** "In how many DAYS (0 to 99) somebody is STARVED first (6: in none)". */
    private static void starvingFirstAndLatest() {
        LoafTable x = Check.laid("resolve 9;guest a wish 0 bears 0 dear 0;");
        CHECK.due("behind one DAY", x.starving(), 1);
        x.day(1);
        CHECK.due("now", x.starving(), 0);
        CHECK.due("STATUS", x.status(), 0);
        x.soup(0);
        CHECK.due("no more", x.starving(), 1);
        // 60 days of bread, a cut, so many more, then three days of hunger
        for (int loaf = 34; loaf <= 38; loaf++) {
            LoafTable y = Check.laid("slices 60;loaf " + loaf + ";guest a wish 9 bears 2 dear 0 stays;");
            CHECK.due("STARVED behind DAY " + (loaf + 63), y.starving(), loaf + 63 <= 99 ? loaf + 63 : -1);
            CHECK.due("STATUS", y.status(), loaf + 63 <= 99 ? 0 : 6);
        }
        LoafTable z = Check.laid("guest a wish 0 bears 0 dear 0;guest b wish 0 bears 0 dear 0;");
        z.day(1);
        z.cut(0);
        CHECK.due("b is STARVED", z.starving(), 0);
        z.soup(1);
        CHECK.due("who is GONE is not: b behind 8 DAYS of bread", z.starving(), 9);
    }

    /** "the least LOAF (1 to 60)"; n 1 to 20. */
    private static void leastAndMostLoaf() {
        // who cuts first goes; those left need a slice a day, each: of a cut on day 1, none before it is gone
        for (int n = 1; n <= 20; n++) {
            LoafTable one = Check.laid("guest a wish 9 bears 0 dear 0;guest b wish 0 bears 0 dear 0;");
            CHECK.due("one for " + n + " DAYS", one.least(n), n);
            LoafTable three = Check.laid("guest a wish 9 bears 0 dear 0;guest b wish 0 bears 0 dear 0;guest c wish 0 bears 0 dear 0;"
                + "guest d wish 0 bears 0 dear 0;");
            CHECK.due("three for " + n + " DAYS", three.least(n), 3 * n);
            LoafTable four = Check.laid("guest a wish 9 bears 0 dear 0;guest b wish 0 bears 0 dear 0;guest c wish 0 bears 0 dear 0;"
                + "guest d wish 0 bears 0 dear 0;guest e wish 0 bears 0 dear 0;");
            CHECK.due("four for " + n + " DAYS", four.least(n), n <= 15 ? 4 * n : -1);
            CHECK.due("STATUS", four.status(), n <= 15 ? 0 : 6);
        }
        // the first of four needs a slice on the sixteenth day, too: 4 * 15 and one are more than 60
        String three = "guest c wish 0 bears 1 dear 0;guest d wish 0 bears 1 dear 0;guest e wish 0 bears 1 dear 0;";
        LoafTable most = Check.laid("guest a wish 9 bears 0 dear 0;guest b wish 0 bears 0 dear 0;" + three);
        CHECK.due("57", most.least(15), 57);
        CHECK.none("61", most, most.least(16), 6);
        LoafTable sixty = Check.laid("guest a wish 9 bears 0 dear 0;guest b wish 0 bears 1 dear 0;" + three);
        CHECK.due("the sixteenth day can be borne", sixty.least(16), 60);
        CHECK.none("the seventeenth can't", sixty, sixty.least(17), 6);
        LoafTable y = Check.laid("loaf 60;guest a wish 0 bears 20 dear 0;");
        CHECK.due("a LOAF of 1 will do", y.least(1), 1);
        CHECK.due("the LOAF stays", y.told(4), 60);
        LoafTable none = new LoafTable();
        CHECK.due("of nobody", none.least(1), 1);
        CHECK.due("STATUS", none.status(), 0);
    }

    /** "nobody is STARVED behind any of n DAYS": not now, but behind the first and the last of them. */
    private static void leastBehindEachDay() {
        LoafTable x = Check.laid("slices 19;guest a wish 0 bears 0 dear 0;");
        CHECK.due("bread for 19 DAYS", x.least(19), 1);
        CHECK.none("STARVED behind the twentieth", x, x.least(20), 6);
        LoafTable y = Check.laid("guest a wish 4 bears 0 dear 0 stays;");
        y.day(1);
        CHECK.due("STARVED now", y.told(10), 1);
        CHECK.due("not behind a DAY", y.least(1), 1);
        CHECK.due("a LOAF for each of three", y.least(3), 3);
        LoafTable z = Check.laid("resolve 6;guest a wish 5 bears 0 dear 0 stays;");
        CHECK.none("STARVED behind the first alone", z, z.least(2), 6);
        LoafTable w = Check.laid("slices 2;guest a wish 9 bears 0 dear 0 end;guest b wish 0 bears 0 dear 0;");
        CHECK.due("SLICES first, then half of 3, rounded up", w.least(3), 3);
        CHECK.due("SLICES alone", w.least(1), 1);
    }

    private static void plan(String what, LoafTable x, int days, int dear, int... row) {
        CHECK.due(what + ": plan(" + days + ")", x.plan(days), dear);
        CHECK.due(what + ": status", x.status(), 0);
        for (int k = 0; k < row.length; k++) {
            CHECK.due(what + ": planAt(" + days + ", " + k + ")", x.planAt(days, k), row[k]);
            CHECK.due(what + ": status", x.status(), 0);
        }
        CHECK.none(what + ": no such DAY", x, x.planAt(days, days), 1);
        CHECK.none(what + ": no such DAY", x, x.planAt(days, -1), 1);
    }

    /** "PLAN of n (1 to 5)"; "from 0 on". */
    private static void planDays() {
        LoafTable x = Check.laid("loaf 1;guest a wish 0 bears 0 dear 0 stays;");
        plan("a cuts each DAY", x, 1, 0, 0);
        plan("a cuts each DAY", x, 2, 0, 0, 0);
        plan("a cuts each DAY", x, 3, 0, 0, 0, 0);
        plan("a cuts each DAY", x, 4, 0, 0, 0, 0, 0);
        plan("a cuts each DAY", x, 5, 0, 0, 0, 0, 0, 0);
        LoafTable y = Check.laid("guest a wish 0 bears 20 dear 0;guest b wish 0 bears 4 dear 0;");
        plan("nobody need", y, 4, 0, 2, 2, 2, 2);
        plan("b must eat on the fifth", y, 5, 0, 2, 2, 2, 2, 0);
        plan("of nobody", new LoafTable(), 5, 0, 0, 0, 0, 0, 0);
        LoafTable gone = Check.laid("guest a wish 0 bears 0 dear 7;");
        gone.cut(0);
        plan("nobody is THERE", gone, 5, 0, 1, 1, 1, 1, 1);
    }

    /** "in place of who would (nobody, if there are SLICES)"; one who is THERE. */
    private static void planAsSlicesAllow() {
        LoafTable x = Check.laid("slices 1;loaf 9;guest a wish 20 bears 9 dear 4;guest b wish 20 bears 0 dear 5 stays;");
        CHECK.none("b can't CUT as there is a SLICE", x, x.plan(1), 6);
        CHECK.none("nor by any row of 5", x, x.planAt(5, 0), 6);
        LoafTable y = Check.laid("slices 2;loaf 9;guest a wish 20 bears 9 dear 4;guest b wish 20 bears 0 dear 5 stays;");
        plan("two SLICES, then b", y, 2, 0, 2, 1);
        LoafTable z = Check.laid("loaf 1;guest a wish 20 bears 20 dear 4;guest b wish 0 bears 20 dear 5;");
        plan("nobody in place of a, who would", z, 5, 0, 2, 2, 2, 2, 2);
        LoafTable w = Check.laid("loaf 1;guest a wish 0 bears 0 dear 1;guest b wish 0 bears 0 dear 6;");
        // a goes for b's slice; on the second day b alone is left to cut: he goes, too
        plan("one who is GONE can't CUT again", w, 2, 7, 0, 1);
        w.cut(0);
        CHECK.due("a is GONE, a SLICE", w.told(5), 1);
        plan("b takes it", w, 1, 0, 2);
        plan("then b goes", w, 2, 6, 2, 1);
    }

    /** "of several rows the first, one by one, nobody ahead of all GUESTS". */
    private static void planFirstRow() {
        LoafTable x = Check.laid("loaf 60;guest a wish 0 bears 0 dear 0 stays;guest b wish 0 bears 0 dear 0 stays;");
        plan("of two the first", x, 1, 0, 0);
        plan("nobody, as there is bread", x, 3, 0, 0, 2, 2);
        LoafTable y = Check.laid("loaf 60;guest a wish 0 bears 1 dear 0;guest b wish 0 bears 1 dear 0;");
        plan("nobody ahead of all GUESTS, though nothing is DEAR", y, 1, 0, 2);
        plan("then the first", y, 2, 0, 2, 0);
        LoafTable z = Check.laid("loaf 60;guest a wish 0 bears 1 dear 3;guest b wish 0 bears 1 dear 3 end;guest c wish 0 bears 1 dear 2 end;");
        plan("the least DEAR ahead of the first", z, 2, 2, 3, 2);
        z.sway(0, 20);
        plan("whatever he wishes", z, 2, 2, 3, 2);
        LoafTable w = Check.laid("loaf 2;guest a wish 0 bears 0 dear 1;guest b wish 0 bears 0 dear 1;guest c wish 0 bears 0 dear 1;");
        plan("two slices for two, then one goes again, for the last", w, 2, 2, 0, 1);
        plan("bread for two DAYS of one", w, 3, 2, 0, 1, 3);
        LoafTable end = Check.laid("loaf 3;guest a wish 0 bears 0 dear 2 end;guest b wish 0 bears 0 dear 20;");
        plan("who cuts an END is GONE, too", end, 2, 2, 0, 2);
        plan("half of 3 is for two DAYS: b goes, who is less DEAR than both", end, 3, 20, 1, 2, 2);
        LoafTable most = Check.laid("loaf 1;guest a wish 0 bears 0 dear 20;guest b wish 0 bears 0 dear 20;");
        plan("all that is DEAR together", most, 5, 40, 0, 1, 2, 2, 2);
    }

    /** "so that nobody is STARVED behind any of them". */
    private static void planStarves() {
        LoafTable x = Check.laid("loaf 1;guest a wish 0 bears 0 dear 1;guest b wish 0 bears 1 dear 1;guest c wish 0 bears 0 dear 1;");
        plan("c goes, a eats, b bears it", x, 1, 1, 2);
        plan("then a goes, b eats", x, 2, 2, 2, 0);
        plan("b bears it", x, 3, 2, 2, 0, 3);
        plan("then b goes", x, 4, 3, 2, 0, 3, 1);
        LoafTable y = Check.laid("loaf 9;guest a wish 0 bears 2 dear 1;");
        y.day(2);
        CHECK.due("HUNGER of what he BEARS", y.told(10), 0);
        plan("he must go", y, 1, 1, 0);
        y.day(1);
        CHECK.due("STARVED now", y.told(10), 1);
        plan("that is no matter, if he goes", y, 1, 1, 0);
        LoafTable z = Check.laid("slices 1;guest a wish 0 bears 0 dear 1;");
        z.sit(0, 0, 0, 0);
        CHECK.none("one of two starves", z, z.plan(1), 6);
    }
}
