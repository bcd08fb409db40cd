/** Promises 13 to 25: what is told, what is done. */
public final class DoTest {
    static final String LONG_TABLE = "loaf 3;resolve 5;press 2;guest a wish 5 bears 1 dear 4;guest b wish 4 bears 2 dear 6;"
        + "guest c wish 7 bears 0 dear 0 end;guest d wish 6 bears 3 dear 10 stays;butter a b;butter c b;butter d a;";

    public static void main(String[] args) {
        Check check = new Check("DoTest");
        days(check);
        manyDays(check);
        pressing(check);
        told(check);
        cuts(check);
        butter(check);
        soup(check);
        guests(check);
        rules(check);
        check.end();
    }

    /** told 5, 7, 8, 9 and the WISHES. */
    private static void state(Check check, LoafTable x, String when, int... want) {
        int[] whats = {5, 7, 8, 9};
        for (int i = 0; i < 4; i++) {
            check.due(when + ": told(" + whats[i] + ")", x.told(whats[i]), want[i]);
        }
        for (int g = 0; g + 4 < want.length; g++) {
            check.due(when + ": guest(" + g + ", 0)", x.guest(g, 0), want[g + 4]);
        }
    }

    private static void days(Check check) {
        LoafTable x = Check.laid(LONG_TABLE);
        check.due("cutter()", x.cutter(), 2);
        check.due("wanted()", x.wanted(), 1);
        check.due("guest(1, 7)", x.guest(1, 7), 5);
        check.due("day(1)", x.day(1), 3);
        state(check, x, "day 1", 0, 1, 11, 8, 5, 4, 7, 7);
        check.due("those GONE pass nothing", x.guest(1, 7), 1);
        check.due("of several the first", x.wanted(), 0);
        check.due("cutter()", x.cutter(), 3);
        check.due("day(1)", x.day(1), 3);
        state(check, x, "day 2", 0, 2, 11, 0, 5, 4, 7, 0);
        check.due("day(1)", x.day(1), 2);
        state(check, x, "day 3", 1, 3, 10, 0, 5, 4, 7, 0);
        check.none("cutter() as there are SLICES", x, x.cutter(), 6);
        check.none("to one who is GONE, or from one", x, x.wanted(), 6);
        check.due("day(2)", x.day(2), 2);
        state(check, x, "day 5", 0, 3, 10, 10, 5, 5, 7, 2);
        check.due("HUNGER of b", x.guest(1, 4), 1);
        check.due("HUNGER of d", x.guest(3, 4), 2);
        check.due("STARVED", x.told(10), 0);
        check.due("day(1)", x.day(1), 1);
        state(check, x, "day 6", 2, 4, 8, 0, 5, 5, 7, 2);
        check.due("told(6)", x.told(6), 6);
        check.none("day(0)", x, x.day(0), 1);
        check.none("day(1000)", x, x.day(1000), 1);
        check.none("day(-1)", x, x.day(-1), 1);
    }

    private static void manyDays(Check check) {
        LoafTable x = Check.laid("resolve 20;slices 1;guest a wish 0 bears 20 dear 0 stays;guest b wish 19 bears 20 dear 0 stays;");
        x.day(1);
        check.due("the first takes the last SLICE", x.told(9), 2);
        check.due("WISH of a", x.guest(0, 0), 0);
        check.due("WISH of b", x.guest(1, 0), 20);
        x.bake(1);
        x.day(1);
        check.due("who STAYS has a WISH of 0, then HUNGERS", x.guest(1, 0), 1);
        LoafTable y = new LoafTable();
        y.sit(0, 20, 0, 1);
        y.rule(2, 20);
        y.sit(0, 5, 0, 1);
        y.bake(1);
        for (int i = 0; i < 10; i++) {
            check.due("day(999)", y.day(999), 2);
        }
        check.due("told(6)", y.told(6), 9990);
        check.none("day(10)", y, y.day(10), 7);
        check.due("told(6)", y.told(6), 9990);
        check.due("HUNGER is 99 at most", y.guest(1, 4), 99);
        check.due("WISH is 20 at most", y.guest(1, 0) <= 20, true);
        check.due("STARVED", y.told(10) & 2, 2);
        check.due("day(9)", y.day(9), 2);
        check.none("day(1) beyond 9,999", y, y.day(1), 7);
        check.none("STATUS 1 ahead of 7", y, y.day(1000), 1);
        check.due("days ahead go on", y.thereIn(99), 3);
    }

    private static void pressing(Check check) {
        LoafTable x = Check.laid("press 2;slices 60;guest a wish 0 bears 0 dear 0;guest b wish 19 bears 0 dear 0;"
            + "guest c wish 0 bears 0 dear 0;butter a b;butter c b;butter b a;");
        x.day(1);
        check.due("two press b", x.guest(1, 0), 20);
        check.due("one does not press a", x.guest(0, 0), 0);
        x.day(1);
        check.due("20 at most", x.guest(1, 0), 20);
        x.rule(3, 1);
        x.day(1);
        check.due("one presses a now", x.guest(0, 0), 1);
        check.due("none c", x.guest(2, 0), 0);
        x.rule(3, 3);
        x.sway(1, 3);
        x.day(1);
        check.due("two are too few now", x.guest(1, 0), 3);
        LoafTable y = Check.laid("press 1;guest a wish 0 bears 0 dear 0;guest b wish 0 bears 0 dear 0;butter a b;");
        y.day(1);
        check.due("HUNGER and BUTTER, both", y.guest(1, 0), 2);
    }

    private static void told(Check check) {
        LoafTable x = Check.laid(LONG_TABLE);
        check.none("told(-1)", x, x.told(-1), 1);
        check.none("told(11)", x, x.told(11), 1);
        check.none("guest(4, 0)", x, x.guest(4, 0), 1);
        check.none("guest(-1, 0)", x, x.guest(-1, 0), 1);
        check.none("guest(0, 8)", x, x.guest(0, 8), 1);
        check.none("guest(0, -1)", x, x.guest(0, -1), 1);
        check.none("guest(1, 6)", x, x.guest(1, 6), 6);
        check.due("guest(2, 7)", x.guest(2, 7), 0);
        check.due("its status", x.status(), 0);
        LoafTable y = Check.laid("guest a wish 0 bears 0 dear 0;guest b wish 0 bears 1 dear 0;");
        y.day(1);
        check.due("who HUNGERS", y.told(9), 3);
        check.due("who is STARVED", y.told(10), 1);
        y.cut(0);
        check.due("not one who is GONE", y.told(9), 2);
        check.due("nor here", y.told(10), 0);
        LoafTable z = Check.laid("resolve 3;guest a wish 3 bears 0 dear 0;guest b wish 4 bears 0 dear 0;guest c wish 4 bears 0 dear 0;");
        check.due("the greatest WISH, of several the first", z.cutter(), 1);
        z.rule(2, 5);
        check.none("below RESOLVE", z, z.cutter(), 6);
    }

    private static void cuts(Check check) {
        LoafTable x = Check.laid("loaf 7;guest a wish 3 bears 0 dear 0 end;guest b wish 9 bears 0 dear 0 stays;guest c wish 1 bears 0 dear 0;");
        check.none("cut(3)", x, x.cut(3), 1);
        check.none("cut(-1)", x, x.cut(-1), 1);
        check.due("an END, rounded up", x.cut(0), 4);
        check.due("he is GONE", x.told(8), 6);
        check.due("his WISH stays", x.guest(0, 0), 3);
        check.none("there are SLICES", x, x.cut(1), 7);
        x.day(2);
        check.due("none left", x.told(5), 0);
        check.none("he is GONE", x, x.cut(0), 7);
        check.due("a cut by one who STAYS", x.cut(1), 7);
        check.due("his WISH is 0", x.guest(1, 0), 0);
        check.due("he is THERE", x.guest(1, 5), 1);
        check.due("told(7)", x.told(7), 2);
        check.due("bake(0) can't be", x.bake(0), -1);
        check.due("its status", x.status(), 1);
        check.none("bake(61)", x, x.bake(61), 1);
        check.due("bake(60)", x.bake(60), 7);
        check.due("bake(60) again", x.bake(60), 60);
        check.due("SLICES stay", x.told(5), 7);
        check.due("bake(1)", x.bake(1), 60);
        x.day(4);
        check.due("a LOAF of 1", x.cut(2), 1);
        check.due("who GOES is GONE", x.told(8), 2);
        x.come(0);
        x.day(1);
        check.due("half of 1, rounded up", x.cut(0), 1);
    }

    private static void butter(Check check) {
        LoafTable x = Check.laid("guest a wish 3 bears 0 dear 0;guest b wish 9 bears 0 dear 0;guest c wish 9 bears 0 dear 0;");
        check.none("to himself", x, x.butter(1, 1), 1);
        check.none("no such", x, x.butter(3, 1), 1);
        check.none("no such other", x, x.butter(1, 3), 1);
        check.none("below 0", x, x.butter(-1, 1), 1);
        check.due("ahead to nobody", x.butter(0, 1), 3);
        check.none("to that one", x, x.butter(0, 1), 7);
        check.due("ahead to b", x.butter(0, 2), 1);
        check.due("guest(0, 6)", x.guest(0, 6), 2);
        x.cut(0);
        check.due("by one who is GONE", x.butter(0, 1), 2);
        check.due("to one who is GONE", x.butter(1, 0), 3);
        check.due("guest(1, 6)", x.guest(1, 6), 0);
    }

    private static void soup(Check check) {
        LoafTable x = Check.laid("guest a wish 0 bears 0 dear 0;guest b wish 0 bears 0 dear 0;");
        check.none("soup(2)", x, x.soup(2), 1);
        check.none("no HUNGER", x, x.soup(0), 7);
        x.day(3);
        check.due("soup(0)", x.soup(0), 3);
        check.due("guest(0, 4)", x.guest(0, 4), 0);
        check.due("WISH stays", x.guest(0, 0), 3);
        x.cut(1);
        check.none("he is GONE", x, x.soup(1), 7);
        check.due("his HUNGER stays", x.guest(1, 4), 3);
    }

    private static void guests(Check check) {
        LoafTable x = new LoafTable();
        int[][] wrong = {{21, 0, 0, 0}, {-1, 0, 0, 0}, {0, 21, 0, 0}, {0, -1, 0, 0}, {0, 0, 21, 0}, {0, 0, -1, 0}, {0, 0, 0, 3}, {0, 0, 0, -1}};
        for (int[] w : wrong) {
            check.none("sit", x, x.sit(w[0], w[1], w[2], w[3]), 1);
        }
        for (int i = 0; i < 7; i++) {
            check.due("sit", x.sit(20 - i, i, 2 * i, i % 3), i);
        }
        check.none("an eighth", x, x.sit(0, 0, 0, 0), 4);
        check.none("1 ahead of 4", x, x.sit(21, 0, 0, 0), 1);
        for (int i = 0; i < 7; i++) {
            int[] want = {20 - i, i, 2 * i, i % 3, 0, 1};
            for (int k = 0; k < 6; k++) {
                check.due("guest(" + i + ", " + k + ")", x.guest(i, k), want[k]);
            }
            check.none("guest(" + i + ", 6)", x, x.guest(i, 6), 6);
        }
        check.due("all are THERE", x.told(8), 127);
        check.none("come(7)", x, x.come(7), 1);
        check.none("he is THERE", x, x.come(0), 7);
        x.butter(0, 1);
        x.day(2);
        check.none("sway of one GONE", x, x.sway(0, 4), 7);
        check.none("1 ahead of 7", x, x.sway(0, 21), 1);
        check.due("come(0)", x.come(0), 7);
        check.due("WISH 0", x.guest(0, 0), 0);
        check.due("HUNGER 0", x.guest(0, 4), 0);
        check.due("the BUTTER goes on", x.guest(0, 6), 1);
        check.none("sway(7, 0)", x, x.sway(7, 0), 1);
        check.none("sway(0, -1)", x, x.sway(0, -1), 1);
        check.due("sway(0, 20)", x.sway(0, 20), 0);
        check.due("sway(0, 0)", x.sway(0, 0), 20);
        LoafTable y = Check.laid("guest a wish 5 bears 0 dear 0;guest b wish 0 bears 0 dear 0;butter b a;");
        y.day(9);
        y.come(0);
        check.due("sit behind a TABLE", y.sit(1, 2, 3, 1), 2);
        y.day(9);
        y.sway(1, 9);
        y.day(1);
        check.due("HUNGER is 0 as one comes again", y.come(1) > 0 && y.guest(1, 4) == 0, true);
    }

    private static void rules(Check check) {
        LoafTable x = new LoafTable();
        int[] low = {0, 1, 1};
        int[] high = {16, 20, 6};
        for (int what = 1; what <= 3; what++) {
            check.due("rule(" + what + ", most)", x.rule(what, high[what - 1]), true);
            check.due("told", x.told(what), high[what - 1]);
            check.not("rule(" + what + ", more)", x, x.rule(what, high[what - 1] + 1), 1);
            check.not("rule(" + what + ", less)", x, x.rule(what, low[what - 1] - 1), 1);
            check.due("told stays", x.told(what), high[what - 1]);
            check.due("rule(" + what + ", least)", x.rule(what, low[what - 1]), true);
            check.due("told", x.told(what), low[what - 1]);
        }
        check.not("rule(0, 1)", x, x.rule(0, 1), 1);
        check.not("rule(4, 1)", x, x.rule(4, 1), 1);
    }
}
