/** Promises 46 to 50: WEEKS, MARKS. */
public final class WeeksTest {
    private static final String THREE = "guest a wish 0 bears 9 dear 0;guest b wish 0 bears 9 dear 0 stays;guest c wish 19 bears 9 dear 0;";

    public static void main(String[] args) {
        Check check = new Check("WeeksTest");
        steps(check);
        draws(check);
        tests(check);
        missed(check);
        lastDays(check);
        limits(check);
        told(check);
        means(check);
        marks(check);
        check.end();
    }

    private static void lived(Check check, LoafTable x, String what, int... want) {
        for (int i = 0; i < want.length; i++) {
            check.due(what + ": lived(" + i + ")", x.lived(i), want[i]);
        }
    }

    private static void steps(Check check) {
        LoafTable x = Check.laid(THREE);
        check.due("weeks", Check.weeks(x, "bake 2;day 2;soup b;butter a b;cut b;"), 5);
        // day 1: c cuts 2 and goes, a and b eat; day 2: nobody cuts, both hunger
        check.due("live(5)", x.live(5), 5);
        lived(check, x, "live(5)", 0, 2, 2, 1, 0);
        check.due("LOAF", x.told(4), 2);
        check.due("SLICES", x.told(5), 2);
        check.due("DAY", x.told(6), 2);
        check.due("CUTS", x.told(7), 2);
        check.due("THERE", x.told(8), 3);
        check.due("HUNGERS", x.told(9), 1);
        check.due("BUTTER", x.guest(0, 6), 1);
        check.due("WISH of b, who stays", x.guest(1, 0), 0);
        check.due("live(5) once more goes on from there", x.live(5), 5);
        // bread for a day, then both hunger: soup and cut can be, bake and butter can't
        lived(check, x, "again", 2, 2, 1, 0, 0);
        check.due("DAY", x.told(6), 4);
        check.none("live(-1)", x, x.live(-1), 1);
        check.none("live(10000)", x, x.live(10000), 1);
        check.due("live(9999)", x.live(9999), 5);
        check.due("WEEKS of nothing", Check.weeks(x, ""), 0);
        check.due("are WEEKS", x.live(0), 0);
        lived(check, x, "nothing", 0, 0, 0, 0, 0);
    }

    /** Of seed 0 the draws are 1438 and 6673: the second of three guests, 1 of 16. */
    private static void draws(Check check) {
        LoafTable x = Check.laid(THREE);
        Check.weeks(x, "any;");
        check.due("live(0)", x.live(0), 1);
        check.due("WISH of b is 1 more", x.guest(1, 0), 1);
        check.due("no DAY", x.told(6), 0);
        lived(check, x, "a wish", 0, 0, 0, 0, 0);
        x.rule(1, 1);
        check.due("live(0)", x.live(0), 1);
        check.due("1 is not below 1: a DAY, c goes, b eats", x.guest(1, 0), 1);
        lived(check, x, "a day", 0, 1, 1, 1, 0);
        x.rule(1, 16);
        x.sway(1, 20);
        check.due("live(0)", x.live(0), 1);
        lived(check, x, "above 20", 1, 0, 0, 0, 0);
        check.due("20", x.guest(1, 0), 20);
        LoafTable y = Check.laid("guest a wish 0 bears 9 dear 0;guest b wish 7 bears 9 dear 0;guest c wish 0 bears 9 dear 0;");
        y.cut(1);
        Check.weeks(y, "any;any;");
        check.due("of one who is GONE, the second by the third draw", y.live(0), 2);
        check.due("WISH of b", y.guest(1, 0), 7);
        // third: (53388 * 3283 + 11511) % 65536 = 41195, an eighth of it 5149: guest 1; fourth: 53712, 6714: 10 of 16
        lived(check, y, "GONE", 1, 1, 0, 0, 0);
    }

    private static void tests(Check check) {
        String[] on = {"there a", "hungry b", "bread=0", "bread<1", "wish a=3", "wish a>2", "wish a<4", "wish c=19", "wish c>18"};
        String[] off = {"there c", "hungry a", "hungry c", "bread>0", "bread<0", "bread=1", "wish a=2", "wish a>3", "wish a<3", "wish c<19"};
        LoafTable x = Check.laid(THREE);
        x.day(8);
        x.soup(0);
        x.sway(0, 3);
        check.due("SLICES", x.told(5), 0);
        check.due("who HUNGERS", x.told(9), 2);
        for (String test : on) {
            Check.weeks(x, "when " + test + ";stop;end;");
            check.due(test, x.live(0), 2);
        }
        for (String test : off) {
            Check.weeks(x, "when " + test + ";stop;end;");
            check.due(test, x.live(0), 1);
        }
    }

    private static void missed(Check check) {
        LoafTable x = Check.laid(THREE);
        Check.weeks(x, "cut c;cut a;soup a;butter a c;butter a c;bake 8;loop 4;day 1;end;cut c;soup c;day 1;soup c;");
        check.due("live", x.live(0), 15);
        lived(check, x, "misses", 7, 5, 1, 1, 0);
        LoafTable y = new LoafTable();
        Check.weeks(y, "any;");
        check.due("any without GUESTS", y.live(0), 1);
        lived(check, y, "any", 1, 0, 0, 0, 0);
        LoafTable z = Check.laid(THREE);
        z.cut(2);
        Check.weeks(z, "butter c a;butter a c;");
        z.live(0);
        check.due("whoever of the two is THERE", z.lived(0), 0);
    }

    private static void lastDays(Check check) {
        LoafTable x = Check.laid("odds 0;guest a wish 0 bears 0 dear 0 stays;");
        for (int i = 0; i < 10; i++) {
            x.day(999);
        }
        Check.weeks(x, "day 10;day 8;any;any;day 1;");
        check.due("live", x.live(0), 5);
        lived(check, x, "9,999", 3, 9, x.lived(2), 0, 0);
        check.due("told(6)", x.told(6), 9999);
    }

    private static void limits(Check check) {
        LoafTable x = new LoafTable();
        run(check, x, "loop 2;loop 3;any;end;end;", 9, 8 - 2, 0);
        run(check, x, "loop 99;any;any;any;end;", 298, 297, 0);
        run(check, x, "loop 99;any;any;any;end;any;any;", 300, 299, 0);
        run(check, x, "loop 99;any;any;any;end;any;any;any;", 300, 299, 1);
        run(check, x, "loop 99;any;any;any;end;any;stop;any;", 300, 298, 0);
        run(check, x, "loop 99;any;any;any;end;any;any;stop;", 300, 299, 1);
        run(check, x, "loop 99;any;any;any;end;any;loop 9;end;", 300, 298, 0);
        run(check, x, "loop 99;any;any;any;end;any;loop 9;any;end;", 300, 298, 1);
        run(check, x, "loop 99;any;any;any;end;any;when bread>0;any;end;", 300, 298, 0);
        run(check, x, "loop 99;any;any;any;end;any;when bread=0;any;end;", 300, 298, 1);
        run(check, x, "loop 99;loop 99;loop 99;end;end;end;", 300, 0, 1);
        run(check, x, "loop 99;loop 2;any;end;end;", 298, 198, 0);
        run(check, x, "any;".repeat(30), 30, 30, 0);
        run(check, x, "loop 2;" + "any;".repeat(29) + "end;", 59, 58, 0);
        run(check, x, "stop;any;", 1, 0, 0);
        run(check, x, "loop 5;loop 5;stop;end;end;any;", 3, 0, 0);
        run(check, x, "loop 5;when bread=0;end;when bread>0;any;end;end;", 11, 0, 0);
    }

    private static void run(Check check, LoafTable x, String text, int steps, int missed, int left) {
        check.due(text, Check.weeks(x, text) > 0, true);
        check.due(text + " live", x.live(3), steps);
        lived(check, x, text, missed, 0, 0, 0, left);
    }

    private static void told(Check check) {
        LoafTable x = Check.laid(THREE);
        check.none("lived(0)", x, x.lived(0), 6);
        check.none("lived(5)", x, x.lived(5), 1);
        check.none("lived(-1)", x, x.lived(-1), 1);
        Check.weeks(x, "day 3;cut c;");
        x.mark();
        x.live(0);
        lived(check, x, "live", 1, 3, 1, 1, 0);
        x.undo();
        x.live(10000);
        x.mean(0, 20);
        Check.table(x, "");
        x.live(0);
        lived(check, x, "whatever came behind it", 1, 3, 1, 1, 0);
    }

    private static void means(Check check) {
        LoafTable x = Check.laid(THREE);
        check.not("no WEEKS", x, x.mean(0, 1), 6);
        check.not("1 ahead of 6", x, x.mean(0, 21), 1);
        Check.weeks(x, "cut a;");
        check.fraction("two stay", x, x.mean(0, 20), 2, 1);
        check.due("all stay as they are", x.told(8) * 10 + x.told(7), 70);
        check.not("mean(0, 0)", x, x.mean(0, 0), 1);
        check.not("mean(-1, 1)", x, x.mean(-1, 1), 1);
        check.not("mean(10000, 1)", x, x.mean(10000, 1), 1);
        check.not("mean(9999, 2)", x, x.mean(9999, 2), 1);
        check.not("mean(9980, 21)", x, x.mean(9980, 21), 1);
        check.fraction("to the last seed", x, x.mean(9980, 20), 2, 1);
        check.none("none was LIVED", x, x.lived(0), 6);
        // seed 0 draws a wish: three stay; by odds of 1 a day: c goes
        Check.weeks(x, "any;");
        check.fraction("a wish", x, x.mean(0, 1), 3, 1);
        x.rule(1, 1);
        check.fraction("a day", x, x.mean(0, 1), 2, 1);
        x.rule(1, 8);
        int sum = 0;
        for (int seed = 40; seed < 47; seed++) {
            x.mark();
            x.live(seed);
            sum += Integer.bitCount(x.told(8));
            x.undo();
        }
        check.fraction("as they are LIVED one by one", x, x.mean(40, 7), sum, 7);
    }

    private static void marks(Check check) {
        LoafTable x = Check.laid(THREE);
        Check.weeks(x, "day 1;");
        check.none("undo()", x, x.undo(), 6);
        check.due("mark()", x.mark(), 1);
        x.live(0);
        x.rule(1, 9);
        x.butter(0, 1);
        check.due("mark()", x.mark(), 2);
        check.due("another TABLE", Check.table(x, "loaf 9;slices 3;guest z wish 1 bears 1 dear 1 end;"), 1);
        check.due("other WEEKS", Check.weeks(x, "soup z;day 2;"), 2);
        check.due("mark()", x.mark(), 3);
        check.none("a fourth", x, x.mark(), 4);
        x.day(20);
        x.sit(1, 1, 1, 1);
        x.tray(0, 0, 1);
        x.write(0, 0, 4);
        check.fraction("stale(1)", x, x.stale(1), 3, 4);
        check.due("undo()", x.undo(), 2);
        check.due("SLICES", x.told(5), 3);
        check.due("GUESTS", x.told(0), 1);
        check.due("kind", x.guest(0, 3), 2);
        check.due("the TRAY stays", x.read(0, 0), 4);
        check.due("the FRACTION stays", x.top() * 10 + x.bottom(), 34);
        check.due("WEEKS", x.live(0), 2);
        check.due("undo()", x.undo(), 1);
        int[] told = {3, 9, 5, 2, 8, 6, 1, 1, 3, 0, 0};
        for (int i = 0; i < told.length; i++) {
            check.due("told(" + i + ")", x.told(i), told[i]);
        }
        check.due("BUTTER", x.guest(0, 6), 1);
        check.due("NAMES, too", Check.weeks(x, "cut c;"), 1);
        check.due("mark() again", x.mark(), 2);
        x.undo();
        check.due("undo()", x.undo(), 0);
        check.due("all THERE", x.told(8), 7);
        check.due("DAY", x.told(6), 0);
        check.due("ODDS", x.told(1), 4);
        check.none("BUTTER", x, x.guest(0, 6), 6);
        x.live(0);
        check.due("the first WEEKS", x.told(6), 1);
        check.none("undo()", x, x.undo(), 6);
        LoafTable y = new LoafTable();
        y.mark();
        Check.weeks(y, "any;");
        y.undo();
        check.none("no WEEKS again", y, y.live(0), 6);
    }
}
