/** Terms 4 (what STEPS do, what is MISSED, draws), promises 46 to 48: a check for each edge; refusals are in RefusedTest. */
public final class LifeEdgeTest {
    private static final Check CHECK = new Check("LifeEdgeTest");

    public static void main(String[] args) {
        daysSteps();
        daysMissed();
        cutsMissed();
        butterMissed();
        soupMissed();
        bakeMissed();
        anyMissed();
        draws();
        oddsDrawn();
        compares();
        testsOfThoseGone();
        loops();
        thirtieth();
        threeHundred();
        stops();
        anew();
        stays();
        livedLatest();
        means();
        meanSeeds();
        CHECK.end();
    }

    /** WEEKS for a TABLE, LIVED by a seed: how many STEPS, how many MISSED, DAYS, CUTS, GONE, one left. */
    private static void lives(String what, LoafTable x, String weeks, int seed, int steps, int... want) {
        CHECK.due(what + ": weeks", Check.weeks(x, weeks) >= 0, true);
        CHECK.due(what + ": live(" + seed + ")", x.live(seed), steps);
        CHECK.due(what + ": status", x.status(), 0);
        for (int i = 0; i < want.length; i++) {
            CHECK.due(what + ": lived(" + i + ")", x.lived(i), want[i]);
            CHECK.due(what + ": status", x.status(), 0);
        }
    }

    private static LoafTable two() {
        return Check.laid("resolve 20;loaf 3;odds 0;guest a wish 0 bears 20 dear 0;guest b wish 0 bears 20 dear 0 stays;");
    }

    /** "day: so many (1 to 20)". */
    private static void daysSteps() {
        lives("one", two(), "day 1;", 0, 1, 0, 1, 0, 0, 0);
        lives("twenty", two(), "day 20;", 0, 1, 0, 20, 0, 0, 0);
        lives("and one", two(), "day 20;day 1;", 0, 2, 0, 21, 1, 1, 0);
        LoafTable x = two();
        lives("by several", x, "day 7;any;day 2;any;any;", 9999, 5, 0, 12, 0, 0, 0);
        CHECK.due("DAY", x.told(6), 12);
        CHECK.due("WISH", x.guest(0, 0), 12);
    }

    /** "MISSED: DAYS beyond 9,999 (as a whole; by any, too)". */
    private static void daysMissed() {
        LoafTable x = new LoafTable();
        for (int i = 0; i < 10; i++) {
            x.day(999);
        }
        x.sit(0, 20, 0, 1);
        x.rule(1, 0);
        x.rule(2, 20);
        CHECK.due("DAY", x.told(6), 9990);
        lives("10,000: as a whole", x, "day 10;", 0, 1, 1, 0, 0, 0, 0);
        CHECK.due("none of them went by", x.guest(0, 0), 0);
        lives("10,010", x, "day 20;", 0, 1, 1, 0, 0, 0, 0);
        lives("9,998", x, "day 10;day 8;day 2;", 0, 3, 2, 8, 0, 0, 0);
        lives("9,999 by any", x, "any;any;", 0, 2, 1, 1, 0, 0, 0);
        CHECK.due("DAY", x.told(6), 9999);
        CHECK.due("WISH", x.guest(0, 0), 9);
        lives("10,000", x, "day 1;any;", 0, 2, 2, 0, 0, 0, 0);
        lives("other STEPS can be", x, "bake 3;", 0, 1, 0, 0, 0, 0, 0);
        LoafTable y = new LoafTable();
        for (int i = 0; i < 10; i++) {
            y.day(999);
        }
        y.sit(0, 20, 0, 1);
        lives("9,999 as a whole", y, "day 9;", 0, 1, 0, 9);
        CHECK.due("DAY", y.told(6), 9999);
    }

    /** "a cut by one who is GONE, as there are SLICES". */
    private static void cutsMissed() {
        LoafTable x = two();
        lives("one CUT, then there are SLICES", x, "cut b;cut a;cut b;", 0, 3, 2, 0, 1, 0, 0);
        CHECK.due("SLICES", x.told(5), 3);
        CHECK.due("CUTS", x.told(7), 1);
        LoafTable y = Check.laid("loaf 1;resolve 20;guest a wish 0 bears 20 dear 0;guest b wish 0 bears 20 dear 0 end;");
        lives("by one who is GONE", y, "cut a;day 1;cut a;cut b;cut b;", 0, 5, 2, 1, 2, 2, 0);
        CHECK.due("nobody is THERE", y.told(8), 0);
        CHECK.due("an END of 1", y.told(5), 1);
    }

    /** "a butter to whom he passes it"; whoever of the two is THERE. */
    private static void butterMissed() {
        LoafTable x = two();
        lives("once, then again", x, "butter a b;butter a b;", 0, 2, 1);
        CHECK.due("to b", x.guest(0, 6), 1);
        LoafTable y = Check.laid("guest a wish 0 bears 0 dear 0;guest b wish 0 bears 0 dear 0;guest c wish 0 bears 0 dear 0;butter a b;");
        y.cut(0);
        lives("one who is GONE", y, "butter a b;butter a c;butter c a;butter a c;", 0, 4, 2);
        CHECK.due("to c", y.guest(0, 6), 2);
        CHECK.due("to one who is GONE", y.guest(2, 6), 0);
        lives("to each of the others, then to that one again", y, "butter c b;butter c a;butter c a;butter c b;butter a b;", 0, 5, 1);
        CHECK.due("c to b", y.guest(2, 6), 1);
        CHECK.due("a to b", y.guest(0, 6), 1);
    }

    /** "a soup for one who is GONE, without HUNGER". */
    private static void soupMissed() {
        LoafTable x = two();
        lives("without HUNGER", x, "soup a;day 1;soup a;soup a;", 0, 4, 2, 1);
        CHECK.due("HUNGER of a", x.guest(0, 4), 0);
        CHECK.due("of b", x.guest(1, 4), 1);
        CHECK.due("the WISH stays", x.guest(0, 0), 1);
        x.day(1);
        x.cut(0);
        lives("for one who is GONE", x, "soup a;soup b;", 0, 2, 1);
        CHECK.due("HUNGER of a", x.guest(0, 4), 1);
        CHECK.due("of b", x.guest(1, 4), 0);
    }

    /** "a bake of as many as the LOAF has"; 1 to 60. */
    private static void bakeMissed() {
        LoafTable x = two();
        lives("as many", x, "bake 3;", 0, 1, 1);
        lives("the least, the most", x, "bake 1;bake 60;", 0, 2, 0);
        lives("60 again", x, "bake 60;bake 60;bake 3;bake 60;", 0, 4, 2);
        CHECK.due("LOAF", x.told(4), 60);
    }

    /** "a WISH more (by any) of one who is GONE, above 20, any without GUESTS". */
    private static void anyMissed() {
        LoafTable none = new LoafTable();
        lives("without GUESTS", none, "any;any;", 0, 2, 2, 0, 0, 0, 0);
        none.rule(1, 0);
        lives("without GUESTS, by ODDS 0", none, "any;", 9999, 1, 1, 0, 0, 0, 0);
        LoafTable x = new LoafTable();
        x.sit(18, 20, 0, 0);
        x.rule(1, 16);
        lives("to 20", x, "any;any;", 5, 2, 0, 0, 0, 0, 0);
        CHECK.due("WISH", x.guest(0, 0), 20);
        lives("above 20", x, "any;", 5, 1, 1, 0, 0, 0, 0);
        CHECK.due("WISH", x.guest(0, 0), 20);
        x.sway(0, 3);
        x.cut(0);
        lives("of one who is GONE", x, "any;", 5, 1, 1, 0, 0, 0, 0);
        CHECK.due("WISH", x.guest(0, 0), 3);
        x.rule(1, 0);
        lives("a DAY, though all are GONE", x, "any;", 5, 1, 0, 1, 0, 0, 0);
        CHECK.due("WISH", x.guest(0, 0), 3);
    }

    private static long drawn;

    private static int draw(int n) {
        drawn = Math.floorMod(drawn * 3283L + 11511L, 65536L);
        return (int) (drawn / 8 % n);
    }

    /** "a GUEST by a draw by how many there are, those GONE, too": by ODDS 16 each draw is a WISH more. */
    private static void draws() {
        for (int seed : new int[] {0, 1, 7, 8, 777, 4999, 9998, 9999}) {
            for (int guests = 1; guests <= 7; guests++) {
                LoafTable x = new LoafTable();
                x.rule(1, 16);
                for (int i = 0; i < guests; i++) {
                    x.sit(i, 20, 0, 0);
                }
                boolean gone = guests == 4;
                if (gone) {
                    x.cut(2);
                }
                drawn = seed;
                int[] wish = {0, 1, 2, 3, 4, 5, 6};
                int missed = 0;
                for (int i = 0; i < 60; i++) {
                    int who = draw(guests);
                    draw(16);
                    boolean can = wish[who] < 20 && !(gone && who == 2);
                    missed += can ? 0 : 1;
                    wish[who] += can ? 1 : 0;
                }
                lives("seed " + seed + " of " + guests, x, "loop 30;any;any;end;", seed, 61, missed, 0, 0, 0, 0);
                for (int i = 0; i < guests; i++) {
                    CHECK.due("WISH of " + i + " by seed " + seed, x.guest(i, 0), wish[i]);
                }
            }
        }
    }

    /** "a draw by 16 (both first): if that is below ODDS, his WISH is 1 more, else a DAY goes by". */
    private static void oddsDrawn() {
        for (int odds = 0; odds <= 16; odds++) {
            LoafTable x = new LoafTable();
            x.rule(1, odds);
            x.rule(2, 20);
            x.sit(0, 20, 0, 0);
            x.sit(0, 20, 0, 0);
            x.sit(0, 20, 0, 0);
            x.bake(60);
            x.cut(0);
            drawn = 1234;
            int[] wish = new int[3];
            int days = 0;
            int missed = 0;
            for (int i = 0; i < 16; i++) {
                int who = draw(3);
                boolean wishes = draw(16) < odds;
                days += wishes ? 0 : 1;
                missed += wishes && who == 0 ? 1 : 0;
                wish[who] += wishes && who != 0 ? 1 : 0;
            }
            lives("ODDS " + odds, x, "loop 16;any;end;", 1234, 17, missed, days, 0, 0, 0);
            for (int i = 0; i < 3; i++) {
                CHECK.due("WISH of " + i + " by ODDS " + odds, x.guest(i, 0), wish[i]);
            }
            CHECK.due("SLICES", x.told(5), 60 - 2 * days);
        }
    }

    /** "bread: SLICES, against 0 to 60; wish: against 0 to 20": below, the same, above. */
    private static void compares() {
        for (int slices : new int[] {0, 1, 30, 59, 60}) {
            for (int much : new int[] {0, 1, 30, 59, 60}) {
                LoafTable x = Check.laid("slices " + slices + ";");
                whenOf(x, "bread < " + much, slices < much);
                whenOf(x, "bread > " + much, slices > much);
                whenOf(x, "bread = " + much, slices == much);
            }
        }
        for (int wish : new int[] {0, 1, 10, 19, 20}) {
            for (int much : new int[] {0, 1, 10, 19, 20}) {
                LoafTable x = Check.laid("guest q wish 3 bears 0 dear 0;guest a wish " + wish + " bears 0 dear 0;");
                whenOf(x, "wish a < " + much, wish < much);
                whenOf(x, "wish a > " + much, wish > much);
                whenOf(x, "wish a = " + much, wish == much);
            }
        }
    }

    private static void whenOf(LoafTable x, String test, boolean holds) {
        CHECK.due("when " + test, Check.weeks(x, "when " + test + ";bake 9;end;"), 2);
        CHECK.due("when " + test + ": STEPS", x.live(0), holds ? 2 : 1);
        CHECK.due("when " + test + ": LOAF", x.bake(8), holds ? 9 : 8);
    }

    /** "hungry: THERE, with HUNGER above 0"; "wish: .. of one who is GONE, too". */
    private static void testsOfThoseGone() {
        LoafTable x = Check.laid("resolve 20;guest a wish 5 bears 0 dear 0;guest b wish 0 bears 0 dear 0;");
        whenOf(x, "there a", true);
        whenOf(x, "hungry a", false);
        x.day(1);
        whenOf(x, "hungry a", true);
        x.soup(0);
        whenOf(x, "hungry a", false);
        whenOf(x, "hungry b", true);
        x.day(1);
        whenOf(x, "wish a = 7", true);
        x.cut(0);
        whenOf(x, "there a", false);
        whenOf(x, "hungry a", false);
        whenOf(x, "there b", true);
        whenOf(x, "hungry b", true);
        whenOf(x, "wish a = 7", true);
        whenOf(x, "wish a > 6", true);
        whenOf(x, "wish a < 7", false);
    }

    /** "loop n (1 to 99): as often"; "when, loop count as one each time they are come to from ahead; end does not". */
    private static void loops() {
        lives("once", two(), "loop 1;day 1;end;", 0, 2, 0, 1);
        lives("99 times", two(), "loop 99;any;end;", 0, 100, 0, 99);
        lives("nothing 99 times", two(), "loop 99;end;day 1;", 0, 2, 0, 1);
        lives("within one another", two(), "loop 2;loop 3;any;end;end;", 0, 9, 0, 6);
        lives("three within one another", two(), "loop 2;loop 3;loop 4;any;end;end;end;", 0, 33, 0, 24);
        lives("behind one another", two(), "loop 2;any;end;loop 3;any;end;day 1;", 0, 8, 0, 6);
        lives("when asks anew each time", two(), "loop 4;when wish a < 2;day 1;end;end;", 0, 7, 0, 2);
        lives("when once", two(), "when wish a < 2;day 1;day 1;day 1;end;", 0, 4, 0, 3);
        lives("an empty when", two(), "when there a;end;when bread > 0;end;day 1;", 0, 3, 0, 1);
        lives("within a when that does not hold", two(), "when bread > 0;loop 9;any;end;stop;end;day 1;", 0, 2, 0, 1);
    }

    /** The thirtieth STEP of the WEEKS is done as any other, through a MARK, too. */
    private static void thirtieth() {
        thirtiethAs("day 7;", 30, 0, 7, 0, 0);
        thirtiethAs("cut b;", 30, 0, 0, 1, 0);
        thirtiethAs("cut a;", 30, 0, 0, 1, 1);
        thirtiethAs("butter a b;", 30, 0, 0, 0, 0);
        thirtiethAs("soup b;", 30, 1, 0, 0, 0);
        thirtiethAs("bake 4;", 30, 0, 0, 0, 0);
        thirtiethAs("bake 3;", 30, 1, 0, 0, 0);
        thirtiethAs("any;", 30, 0, 1, 0, 0);
        thirtiethAs("stop;", 30, 0, 0, 0, 0);
        thirtiethAs("loop 99;end;", 30, 0, 0, 0, 0);
        thirtiethAs("when bread > 59;end;", 30, 0, 0, 0, 0);
        String within = "butter b a;butter a b;" + "bake 5;bake 3;".repeat(13);
        String[] tests = {"there a", "hungry a", "bread = 0", "bread > 0", "wish b < 1", "wish b = 1"};
        boolean[] holds = {true, false, true, false, true, false};
        for (int i = 0; i < tests.length; i++) {
            LoafTable x = two();
            lives("the twenty-ninth: " + tests[i], x, within + "when " + tests[i] + ";day 1;end;", 0, holds[i] ? 30 : 29, 0, holds[i] ? 1 : 0);
        }
        LoafTable y = two();
        lives("twice the last of a loop", y, within + "loop 2;day 1;end;", 0, 31, 0, 2);
    }

    private static void thirtiethAs(String last, int steps, int... lived) {
        String ahead = "butter b a;" + "bake 5;bake 3;".repeat(14);
        lives("the thirtieth: " + last, two(), ahead + last, 0, steps, lived);
        LoafTable x = two();
        Check.weeks(x, ahead + last);
        x.mark();
        Check.weeks(x, "any;".repeat(30));
        x.undo();
        CHECK.due("taken back, the thirtieth: " + last, x.live(0), steps);
        for (int i = 0; i < lived.length; i++) {
            CHECK.due("taken back, the thirtieth: " + last + " lived(" + i + ")", x.lived(i), lived[i]);
        }
        CHECK.due("to whom a passes it", x.guest(0, 6), last.startsWith("butter") ? 1 : -1);
        CHECK.due("to whom b does", x.guest(1, 6), 0);
    }

    /** Each live() begins anew: nothing of a stop, of the 300, of what was MISSED is left of the one ahead. */
    private static void anew() {
        LoafTable x = two();
        lives("300 and one left", x, "loop 99;bake 9;bake 9;bake 3;end;any;any;any;", 0, 300, 99, 2, 0, 0, 1);
        CHECK.due("as many again", x.live(0), 300);
        CHECK.due("as many MISSED again", x.lived(0), 99);
        lives("none left", x, "bake 9;", 0, 1, 0, 0, 0, 0, 0);
        lives("a stop", x, "bake 9;stop;bake 9;", 0, 2, 1, 0, 0, 0, 0);
        CHECK.due("a stop again", x.live(0), 2);
        lives("all of them", x, "bake 9;bake 3;bake 9;", 0, 3, 1, 0, 0, 0, 0);
        CHECK.due("a mean behind a stop", Check.weeks(x, "cut a;stop;"), 2);
        CHECK.fraction("each of twenty", x, x.mean(0, 20), 1, 1);
    }

    /** "At most 300 STEPS"; "1 if a STEP was left to be done (by the 300 alone, not by stop), else 0". */
    private static void threeHundred() {
        String most = "loop 99;any;any;any;end;";
        left("298", most, 298, 0);
        left("299", most + "any;", 299, 0);
        left("300, none left", most + "any;any;", 300, 0);
        left("301, one left", most + "any;any;any;", 300, 1);
        left("many left", most + "any;any;any;any;any;", 300, 1);
        left("the 300th is an empty loop", most + "any;loop 9;end;", 300, 0);
        left("the 300th is a loop with a STEP", most + "any;loop 9;any;end;", 300, 1);
        left("the 300th is a when that holds not", most + "any;when bread > 59;any;end;", 300, 0);
        left("the 300th is a when that holds", most + "any;when bread < 60;any;end;", 300, 1);
        left("the 300th is an empty when that holds", most + "any;when bread < 60;end;", 300, 0);
        left("a STEP is behind these", most + "any;loop 9;end;any;", 300, 1);
        left("the last of a loop", "loop 2;any;any;any;end;any;loop 97;any;any;any;end;", 300, 0);
        left("one within a loop", "loop 99;any;any;any;any;end;", 300, 1);
        left("loops within loops", "loop 99;loop 99;loop 99;end;end;end;", 300, 1);
        left("thirty of them ten times, but for the loop", "loop 10;" + "any;".repeat(29) + "end;", 291, 0);
        left("eleven times", "loop 11;" + "any;".repeat(29) + "end;", 300, 1);
    }

    private static void left(String what, String weeks, int steps, int left) {
        LoafTable x = two();
        lives(what, x, weeks, 0, steps);
        CHECK.due(what + ": lived(4)", x.lived(4), left);
        LoafTable y = two();
        lives(what + " by another seed", y, weeks, 9999, steps);
        CHECK.due(what + ": lived(4)", y.lived(4), left);
    }

    private static void stops() {
        lives("at once", two(), "stop;", 0, 1, 0, 0, 0, 0, 0);
        lives("STEPS behind it are not left by the 300", two(), "stop;day 1;any;", 0, 1, 0, 0, 0, 0, 0);
        lives("out of all loops", two(), "loop 9;loop 9;when there a;day 1;stop;end;end;end;day 1;", 0, 5, 0, 1, 0, 0, 0);
        String most = "loop 99;any;any;any;end;";
        left("the 300th", most + "any;stop;any;any;", 300, 0);
        left("the 301st", most + "any;any;stop;", 300, 1);
        left("the 299th", most + "stop;any;any;", 299, 0);
        left("the 300th within a loop", most + "loop 9;stop;end;any;", 300, 0);
    }

    /** "what it comes to stays"; by each call it goes on from how all is. */
    private static void stays() {
        LoafTable x = two();
        lives("twice", x, "day 1;", 0, 1, 0, 1);
        CHECK.due("again", x.live(0), 1);
        CHECK.due("DAY", x.told(6), 2);
        CHECK.due("WISH", x.guest(0, 0), 2);
        LoafTable seeds = two();
        seeds.rule(1, 8);
        Check.weeks(seeds, "loop 9;any;end;");
        LoafTable again = two();
        again.rule(1, 8);
        Check.weeks(again, "loop 9;any;end;");
        seeds.live(42);
        again.mean(9000, 20);
        again.live(42);
        for (int what = 0; what <= 10; what++) {
            CHECK.due("the draws begin with the seed: told(" + what + ")", seeds.told(what), again.told(what));
        }
        CHECK.due("seed 0", x.live(0), 1);
        CHECK.due("seed 9999", x.live(9999), 1);
    }

    /** "Of live() latest with STATUS 0 (whatever came behind it)". */
    private static void livedLatest() {
        LoafTable x = two();
        for (int what = 0; what <= 4; what++) {
            CHECK.none("none: lived(" + what + ")", x, x.lived(what), 6);
        }
        Check.weeks(x, "day 2;");
        x.mean(0, 1);
        CHECK.none("mean() is none", x, x.lived(1), 6);
        x.live(-1);
        CHECK.none("one with STATUS 1 is none", x, x.lived(1), 6);
        lives("one", x, "day 2;cut b;cut b;", 0, 3, 1, 2, 1, 0, 0);
        x.live(10000);
        x.mean(0, 20);
        x.day(5);
        x.mark();
        x.undo();
        CHECK.due("whatever came behind it", x.lived(1), 2);
        Check.table(x, "");
        x.live(0);
        CHECK.due("another TABLE", x.lived(1), 2);
        CHECK.due("its CUTS", x.lived(2), 1);
        CHECK.due("MISSED", x.lived(0), 1);
        Check.weeks(x, "");
        CHECK.due("WEEKS without STEPS", x.live(0), 0);
        for (int what = 0; what <= 4; what++) {
            CHECK.due("these: lived(" + what + ")", x.lived(what), 0);
        }
    }

    /** "the mean of how many are THERE behind the WEEKS, by so many seeds"; "all stays as it is". */
    private static void means() {
        LoafTable x = Check.laid("loaf 1;odds 8;resolve 3;guest a wish 2 bears 0 dear 0;guest b wish 0 bears 0 dear 0;guest c wish 1 bears 0 dear 0 end;");
        Check.weeks(x, "any;any;any;");
        for (int many = 1; many <= 20; many++) {
            int sum = 0;
            for (int seed = 100; seed < 100 + many; seed++) {
                LoafTable y = Check.laid("loaf 1;odds 8;resolve 3;guest a wish 2 bears 0 dear 0;guest b wish 0 bears 0 dear 0;"
                    + "guest c wish 1 bears 0 dear 0 end;");
                Check.weeks(y, "any;any;any;");
                y.live(seed);
                sum += Integer.bitCount(y.told(8));
            }
            long divisor = java.math.BigInteger.valueOf(sum).gcd(java.math.BigInteger.valueOf(many)).longValue();
            CHECK.fraction("mean(100, " + many + ")", x, x.mean(100, many), sum / divisor, many / divisor);
        }
        CHECK.due("THERE", x.told(8), 7);
        CHECK.due("DAY", x.told(6), 0);
        LoafTable none = new LoafTable();
        none.weeks(0);
        CHECK.fraction("nobody", none, none.mean(0, 20), 0, 1);
        none.sit(0, 0, 0, 0);
        none.sit(0, 0, 0, 0);
        CHECK.fraction("two", none, none.mean(0, 20), 2, 1);
    }

    /** "(1: the last above 9,999, too ..)". */
    private static void meanSeeds() {
        LoafTable x = two();
        Check.weeks(x, "cut a;");
        CHECK.fraction("one of seed 0", x, x.mean(0, 1), 1, 1);
        CHECK.fraction("one of seed 9,999", x, x.mean(9999, 1), 1, 1);
        CHECK.fraction("twenty to seed 9,999", x, x.mean(9980, 20), 1, 1);
        for (int many = 2; many <= 20; many++) {
            CHECK.due("to 9,999", x.mean(10000 - many, many), true);
            CHECK.not("to 10,000", x, x.mean(10001 - many, many), 1);
        }
    }
}
