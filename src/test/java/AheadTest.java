/** Promises 26 to 35: days ahead, plans. */
public final class AheadTest {
    public static void main(String[] args) {
        Check check = new Check("AheadTest");
        ahead(check);
        next(check);
        starving(check);
        least(check);
        plans(check);
        check.end();
    }

    private static void ahead(Check check) {
        LoafTable x = Check.laid(DoTest.LONG_TABLE);
        int[] there = {15, 11, 11, 10, 10, 10, 8};
        int[] slices = {0, 0, 0, 1, 0, 0, 2};
        int[] wishOfD = {6, 7, 0, 0, 1, 2, 2};
        int[] hungerOfD = {0, 1, 0, 0, 1, 2, 0};
        for (int d = 0; d < there.length; d++) {
            check.due("thereIn(" + d + ")", x.thereIn(d), there[d]);
            check.due("slicesIn(" + d + ")", x.slicesIn(d), slices[d]);
            check.due("guestIn(3, " + d + ", 0)", x.guestIn(3, d, 0), wishOfD[d]);
            check.due("guestIn(3, " + d + ", 1)", x.guestIn(3, d, 1), hungerOfD[d]);
            check.due("guestIn(2, " + d + ", 0) of one GONE", x.guestIn(2, d, 0), 7);
        }
        check.due("nothing changes", x.told(6) + x.told(7), 0);
        check.due("nor who is THERE", x.told(8), 15);
        check.due("thereIn(99)", x.thereIn(99), 8);
        check.none("thereIn(100)", x, x.thereIn(100), 1);
        check.none("thereIn(-1)", x, x.thereIn(-1), 1);
        check.none("slicesIn(100)", x, x.slicesIn(100), 1);
        check.none("slicesIn(-1)", x, x.slicesIn(-1), 1);
        check.none("guestIn(4, 0, 0)", x, x.guestIn(4, 0, 0), 1);
        check.none("guestIn(0, 100, 0)", x, x.guestIn(0, 100, 0), 1);
        check.none("guestIn(0, -1, 0)", x, x.guestIn(0, -1, 0), 1);
        check.none("guestIn(0, 0, 2)", x, x.guestIn(0, 0, 2), 1);
        check.none("guestIn(0, 0, -1)", x, x.guestIn(0, 0, -1), 1);
    }

    private static void next(Check check) {
        LoafTable x = Check.laid(DoTest.LONG_TABLE);
        check.due("next()", x.next(), 1);
        check.due("nextBy()", x.nextBy(), 2);
        check.due("hangs()", x.hangs(), 4);
        x.day(3);
        check.due("b on day 6", x.next(), 3);
        check.due("nextBy()", x.nextBy(), 1);
        // without b: d takes the slice, hungers from day 5 on: a wish of 5 behind five such days, a cut on day 10
        // without d: b takes the slice on day 4, hungers on day 5, cuts on day 6 as before
        check.due("hangs()", x.hangs(), 2);
        LoafTable y = Check.laid("slices 60;guest a wish 5 bears 0 dear 0;");
        check.due("61 days", y.next(), 61);
        check.due("by a", y.nextBy(), 0);
        check.due("on a", y.hangs(), 1);
        LoafTable z = Check.laid("slices 10;guest a wish 0 bears 0 dear 0;guest b wish 5 bears 0 dear 0;");
        check.due("6 days for two", z.next(), 6);
        check.due("hangs on both: without a it is 11", z.hangs(), 3);
        check.due("nobody is GONE by it", z.told(8), 3);
        LoafTable none = Check.laid("resolve 20;slices 60;guest a wish 0 bears 0 dear 0;");
        check.due("60 days of bread, 20 of hunger, then", none.next(), 81);
        none.sway(0, 19);
        check.due("62", none.next(), 62);
        check.due("hangs() of none THERE", new LoafTable().hangs(), 0);
        LoafTable never = Check.laid("resolve 20;slices 60;guest a wish 0 bears 0 dear 0 stays;");
        for (int i = 0; i < 3; i++) {
            never.day(20);
        }
        never.cut(0);
        never.bake(60);
        never.day(8);
        never.cut(0);
        check.due("60 days of bread", never.told(5), 60);
        check.due("in 81 days", never.next(), 81);
        LoafTable two = Check.laid("slices 1;guest a wish 9 bears 0 dear 0;guest b wish 9 bears 0 dear 0;guest c wish 0 bears 0 dear 0;");
        check.due("b, who hungered, in 2 days", two.next() * 10 + two.nextBy(), 21);
        check.due("on b alone: without a or c it is he, too", two.hangs(), 2);
        LoafTable none99 = new LoafTable();
        check.none("next() of nobody", none99, none99.next(), 6);
        check.none("nextBy() of nobody", none99, none99.nextBy(), 6);
    }

    private static void starving(Check check) {
        LoafTable x = Check.laid(DoTest.LONG_TABLE);
        // d cuts on day 12, eats to day 14 and hungers from then on, his wish begun at 0 again
        check.due("d behind day 18", x.starving(), 18);
        LoafTable y = Check.laid("resolve 9;slices 3;guest a wish 0 bears 2 dear 0;");
        check.due("3 days of bread, 3 of hunger", y.starving(), 6);
        y.day(6);
        check.due("now", y.starving(), 0);
        LoafTable z = Check.laid("resolve 20;guest a wish 0 bears 19 dear 0;");
        check.due("20 days", z.starving(), 20);
        LoafTable far = Check.laid("slices 60;resolve 20;guest a wish 0 bears 20 dear 0 stays;");
        check.none("he cuts ahead of it", far, far.starving(), 6);
        far.sway(0, 0);
        far.bake(1);
        check.none("not in 99 days", far, far.starving(), 6);
        LoafTable last = Check.laid("slices 60;loaf 36;guest a wish 9 bears 2 dear 0 stays;");
        check.due("96 days of bread, 3 of hunger", last.starving(), 99);
        last.bake(37);
        check.none("in 100 days is too late", last, last.starving(), 6);
        LoafTable nobody = new LoafTable();
        check.none("nobody is THERE", nobody, nobody.starving(), 6);
    }

    private static void least(Check check) {
        LoafTable x = Check.laid("guest a wish 9 bears 0 dear 0;guest b wish 0 bears 0 dear 0;guest c wish 0 bears 0 dear 0;");
        check.due("two stay on for a day", x.least(1), 2);
        check.due("for three days", x.least(3), 6);
        check.due("for 20 days", x.least(20), 40);
        check.due("the LOAF stays", x.told(4), 8);
        x.sit(0, 0, 0, 0);
        check.due("three for 20 days", x.least(20), 60);
        x.sit(0, 0, 0, 0);
        check.none("four can't", x, x.least(20), 6);
        check.none("least(0)", x, x.least(0), 1);
        check.none("least(21)", x, x.least(21), 1);
        LoafTable y = Check.laid("guest a wish 0 bears 0 dear 0;");
        check.none("nobody cuts", y, y.least(1), 6);
        LoafTable z = Check.laid("guest a wish 9 bears 0 dear 0 end;guest b wish 0 bears 0 dear 0;guest c wish 0 bears 0 dear 0;guest d wish 0 bears 0 dear 0;");
        check.due("half of 5, rounded up", z.least(1), 5);
        check.none("90 slices at most are too few", z, z.least(20), 6);
        LoafTable w = Check.laid("guest a wish 9 bears 0 dear 0 stays;");
        w.sway(0, 0);
        w.day(1);
        w.sway(0, 9);
        check.due("STARVED now, but not behind a DAY", w.told(10) == 1 ? w.least(1) : 99, 1);
        check.due("of nobody", new LoafTable().least(20), 1);
    }

    private static void plans(Check check) {
        LoafTable x = Check.laid("loaf 1;guest a wish 9 bears 0 dear 3;guest b wish 0 bears 0 dear 2;");
        plan(check, x, "the less DEAR one goes", 1, 2, 1);
        plan(check, x, "both go, the first row", 2, 5, 0, 1);
        plan(check, x, "then nobody", 3, 5, 0, 1, 2);
        plan(check, x, "five days", 5, 5, 0, 1, 2, 2, 2);
        check.due("all stay", x.told(8), 3);
        check.none("plan(0)", x, x.plan(0), 1);
        check.none("plan(6)", x, x.plan(6), 1);
        check.none("planAt(0, 0)", x, x.planAt(0, 0), 1);
        check.none("planAt(6, 0)", x, x.planAt(6, 0), 1);
        check.none("planAt(2, 2)", x, x.planAt(2, 2), 1);
        check.none("planAt(2, -1)", x, x.planAt(2, -1), 1);
        LoafTable y = Check.laid("loaf 1;guest a wish 0 bears 0 dear 0 stays;guest b wish 0 bears 0 dear 0 stays;");
        check.none("one starves", y, y.plan(1), 6);
        check.none("one starves", y, y.planAt(1, 0), 6);
        check.none("1 ahead of 6", y, y.planAt(1, 1), 1);
        LoafTable z = Check.laid("loaf 2;slices 2;guest a wish 9 bears 0 dear 7;guest b wish 0 bears 0 dear 9 stays;");
        plan(check, z, "bread, then b cuts and stays", 3, 0, 2, 1, 1);
        LoafTable w = Check.laid("loaf 3;guest a wish 9 bears 1 dear 7;guest b wish 9 bears 1 dear 7 end;guest c wish 0 bears 1 dear 5 end;");
        plan(check, w, "nobody need go yet", 1, 0, 3);
        plan(check, w, "c cuts an END for two", 2, 5, 3, 2);
        plan(check, w, "nobody ahead of all GUESTS", 3, 5, 3, 2, 3);
        LoafTable zero = Check.laid("loaf 9;guest a wish 0 bears 0 dear 0;guest b wish 0 bears 0 dear 0;");
        plan(check, zero, "of several the first", 1, 0, 0);
        plan(check, new LoafTable(), "of nobody", 2, 0, 0, 0);
        LoafTable full = Check.laid("slices 60;guest a wish 0 bears 0 dear 4;");
        plan(check, full, "there is bread", 4, 0, 1, 1, 1, 1);
    }

    private static void plan(Check check, LoafTable x, String what, int days, int dear, int... row) {
        check.due(what + ": plan(" + days + ")", x.plan(days), dear);
        for (int k = 0; k < row.length; k++) {
            check.due(what + ": planAt(" + days + ", " + k + ")", x.planAt(days, k), row[k]);
        }
    }
}
