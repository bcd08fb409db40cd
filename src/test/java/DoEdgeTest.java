/** Terms 2 (GUESTS, CUT, DAY), promises 13 to 25: a check for each edge that they name; refusals are in RefusedTest. */
public final class DoEdgeTest {
    private static final Check CHECK = new Check("DoEdgeTest");

    public static void main(String[] args) {
        sets();
        starved();
        cutters();
        wanted();
        lastDay();
        firstIfThereAreNoSlices();
        slicesByNumbers();
        hungerMost();
        wishMost();
        pressed();
        cutsInADay();
        ends();
        cuts();
        butter();
        soup();
        bake();
        sway();
        sit();
        come();
        rules();
        CHECK.end();
    }

    /** Guests a, b, .. of so many wishes, who bear 20 and go. */
    private static LoafTable wishing(String settings, int... wishes) {
        StringBuilder text = new StringBuilder(settings);
        for (int i = 0; i < wishes.length; i++) {
            text.append("guest ").append((char) ('a' + i)).append(" wish ").append(wishes[i]).append(" bears 20 dear 0;");
        }
        return Check.laid(text.toString());
    }

    private static void all(String what, LoafTable x, int of, int... want) {
        for (int i = 0; i < want.length; i++) {
            CHECK.due(what + ": guest(" + i + ", " + of + ")", x.guest(i, of), want[i]);
        }
    }

    /** told(0) to told(10), guest(g, 7) by none, one, all seven. */
    private static void sets() {
        LoafTable x = new LoafTable();
        for (int what = 8; what <= 10; what++) {
            CHECK.due("told(" + what + ") of nobody", x.told(what), 0);
        }
        for (int i = 0; i < 7; i++) {
            CHECK.due("sit", x.sit(0, 0, 0, 0), i);
            CHECK.due("told(0)", x.told(0), i + 1);
            CHECK.due("THERE", x.told(8), (2 << i) - 1);
        }
        CHECK.due("nobody HUNGERS", x.told(9), 0);
        CHECK.due("nobody is STARVED", x.told(10), 0);
        CHECK.due("day(1)", x.day(1), 7);
        CHECK.due("all HUNGER", x.told(9), 127);
        CHECK.due("all are STARVED", x.told(10), 127);
        x.soup(6);
        CHECK.due("one less", x.told(9), 63);
        CHECK.due("one less STARVED", x.told(10), 63);
        for (int i = 0; i < 6; i++) {
            CHECK.due("butter", x.butter(i, 6), 7);
        }
        CHECK.due("six pass it to him", x.guest(6, 7), 63);
        CHECK.due("nobody to others", x.guest(0, 7), 0);
        x.butter(6, 0);
        CHECK.due("one passes it to the first", x.guest(0, 7), 64);
        x.cut(0);
        CHECK.due("who is GONE is not THERE", x.told(8), 126);
        CHECK.due("does not HUNGER", x.told(9), 62);
        CHECK.due("is not STARVED", x.told(10), 62);
        CHECK.due("is not in the set", x.guest(6, 7), 62);
        CHECK.due("his HUNGER is as it was", x.guest(0, 4), 1);
        CHECK.due("he is GONE", x.guest(0, 5), 0);
        CHECK.due("to whom he passes it is as it was", x.guest(0, 6), 6);
        CHECK.due("who passes it to him, GONE", x.guest(0, 7), 64);
        CHECK.due("told(0): those GONE, too", x.told(0), 7);
        CHECK.due("CUTS", x.told(7), 1);
    }

    /** "STARVED is one who is THERE with HUNGER above what he BEARS." */
    private static void starved() {
        for (int bears = 0; bears <= 20; bears++) {
            LoafTable x = new LoafTable();
            x.sit(0, bears, 0, 0);
            x.rule(2, 20);
            for (int hunger = 1; hunger <= bears + 1; hunger++) {
                x.sway(0, 0);
                x.day(1);
                CHECK.due("HUNGER", x.guest(0, 4), hunger);
                CHECK.due("STARVED by a HUNGER of " + hunger + ", bears " + bears, x.told(10), hunger > bears ? 1 : 0);
            }
            x.cut(0);
            CHECK.due("not as he is GONE", x.told(10), 0);
        }
    }

    /** "of those THERE whose WISH is RESOLVE and more the one with the greatest WISH, of several the first". */
    private static void cutters() {
        for (int resolve = 1; resolve <= 20; resolve++) {
            LoafTable x = wishing("resolve " + resolve + ";", 0, resolve - 1, 0);
            CHECK.none("a WISH below RESOLVE " + resolve, x, x.cutter(), 6);
            x.sway(1, resolve);
            CHECK.due("a WISH of RESOLVE " + resolve, x.cutter(), 1);
            x.sway(1, 20);
            CHECK.due("a WISH of more", x.cutter(), 1);
        }
        LoafTable x = wishing("loaf 1;resolve 3;", 3, 5, 5, 4);
        CHECK.due("the greatest, of two the first", x.cutter(), 1);
        x.sway(1, 4);
        CHECK.due("the greatest", x.cutter(), 2);
        x.sway(2, 4);
        CHECK.due("of three the first", x.cutter(), 1);
        x.cut(1);
        CHECK.none("there is a SLICE", x, x.cutter(), 6);
        CHECK.due("one SLICE", x.told(5), 1);
        x.day(1);
        CHECK.due("no SLICE", x.told(5), 0);
        CHECK.due("one who is GONE does not: of two the first", x.cutter(), 2);
    }

    /** "To whom the most of those THERE pass the BUTTER, THERE himself, of several the first". */
    private static void wanted() {
        LoafTable x = wishing("loaf 1;resolve 20;", 0, 0, 0, 0, 0);
        CHECK.none("nobody passes it", x, x.wanted(), 6);
        x.butter(0, 4);
        CHECK.due("one does", x.wanted(), 4);
        x.butter(4, 0);
        CHECK.due("of two the first", x.wanted(), 0);
        x.butter(1, 2);
        x.butter(3, 2);
        CHECK.due("the most", x.wanted(), 2);
        x.cut(2);
        CHECK.due("THERE himself", x.wanted(), 0);
        x.day(1);
        x.cut(4);
        CHECK.none("of those THERE: a to e, who is GONE, b and d to c, who is", x, x.wanted(), 6);
        x.butter(1, 3);
        CHECK.due("one again", x.wanted(), 3);
    }

    /** "A DAY goes by (to 9,999)"; "So many DAYS (1 to 999) .. 7: above 9,999". */
    private static void lastDay() {
        LoafTable x = wishing("slices 60;", 0);
        CHECK.due("day(1)", x.day(1), 1);
        CHECK.due("DAY", x.told(6), 1);
        CHECK.due("day(999)", x.day(999), 0);
        CHECK.due("DAY", x.told(6), 1000);
        for (int i = 1; i < 10; i++) {
            x.day(900);
        }
        x.day(890);
        CHECK.due("DAY", x.told(6), 9990);
        CHECK.none("10,000", x, x.day(10), 7);
        CHECK.due("none of them went by", x.told(6), 9990);
        CHECK.due("9,999", x.day(9), 0);
        CHECK.due("DAY", x.told(6), 9999);
        CHECK.none("10,000", x, x.day(1), 7);
        CHECK.due("DAY", x.told(6), 9999);
        CHECK.due("the other state stays as it goes by", Made.lastDay().told(6), 9999);
    }

    /** "first, if there are no SLICES". */
    private static void firstIfThereAreNoSlices() {
        LoafTable x = wishing("slices 1;", 20, 20);
        x.day(1);
        CHECK.due("one SLICE: no CUT", x.told(7), 0);
        CHECK.due("it is taken", x.told(5), 0);
        x.day(1);
        CHECK.due("no SLICES: a CUT", x.told(7), 1);
        CHECK.due("by the first", x.told(8), 2);
        CHECK.due("SLICES, one taken", x.told(5), 7);
        LoafTable y = wishing("resolve 20;", 19, 0);
        y.day(1);
        CHECK.due("no WISH of RESOLVE: no CUT", y.told(7), 0);
        y.day(1);
        CHECK.due("HUNGER made it so", y.told(7), 1);
    }

    /** "each who is THERE, by numbers, takes a SLICE, if there is one left: his HUNGER is 0; else it is 1 more". */
    private static void slicesByNumbers() {
        LoafTable x = wishing("slices 2;resolve 20;", 0, 0, 0);
        x.day(1);
        all("two of three", x, 4, 0, 0, 1);
        CHECK.due("none left", x.told(5), 0);
        x.day(1);
        all("none", x, 4, 1, 1, 2);
        x.bake(2);
        x.cut(0);
        x.day(1);
        all("one who is GONE takes none", x, 4, 1, 0, 0);
        CHECK.due("none left", x.told(5), 0);
        LoafTable y = wishing("slices 4;", 0, 0, 0);
        y.day(1);
        CHECK.due("one left", y.told(5), 1);
        y.day(1);
        all("the first takes it", y, 4, 0, 1, 1);
        all("WISHES", y, 0, 0, 1, 1);
    }

    /** "(99 at most)". */
    private static void hungerMost() {
        LoafTable x = new LoafTable();
        x.sit(0, 20, 0, 1);
        x.rule(2, 20);
        for (int i = 1; i <= 101; i++) {
            x.sway(0, 0);
            x.day(1);
            CHECK.due("HUNGER on DAY " + i, x.guest(0, 4), Math.min(i, 99));
        }
        CHECK.due("in 1", x.guestIn(0, 1, 1), 99);
        CHECK.due("soup", x.soup(0), 99);
        x.day(1);
        CHECK.due("from 0 again", x.guest(0, 4), 1);
    }

    /** "(20 at most)": from 18, 19, 20 by none, one, two more. */
    private static void wishMost() {
        for (int wish = 17; wish <= 20; wish++) {
            // resolve 20: one SLICE keeps them from a CUT, the first takes it
            String two = "resolve 20;press 1;slices 1;guest a wish " + wish + " bears 9 dear 0;guest b wish " + wish + " bears 9 dear 0;";
            LoafTable x = Check.laid(two);
            x.day(1);
            all("none and one", x, 0, wish, Math.min(20, wish + 1));
            LoafTable y = Check.laid(two + "butter a b;butter b a;");
            y.day(1);
            all("one and two", y, 0, Math.min(20, wish + 1), Math.min(20, wish + 2));
        }
    }

    /** "1 more if at least PRESS of the others who are THERE pass the BUTTER to him". */
    private static void pressed() {
        for (int press = 1; press <= 6; press++) {
            LoafTable x = wishing("loaf 60;slices 60;press " + press + ";", 0, 0, 0, 0, 0, 0, 0);
            for (int i = 0; i < press - 1; i++) {
                x.butter(i, 6);
            }
            x.day(1);
            CHECK.due("one fewer than PRESS " + press, x.guest(6, 0), 0);
            x.butter(press - 1, 6);
            x.day(1);
            CHECK.due("PRESS " + press, x.guest(6, 0), 1);
            CHECK.due("another one", x.guest(0, 0), 0);
            for (int least = 1; least < press; least++) {
                x.mark();
                x.rule(3, least);
                x.day(1);
                CHECK.due(press + " are at least " + least, x.guest(6, 0), 2);
                x.undo();
            }
            x.rule(3, Math.min(6, press + 1));
            x.day(1);
            CHECK.due("one fewer than PRESS from now on", x.guest(6, 0), press == 6 ? 2 : 1);
        }
        LoafTable x = wishing("press 2;resolve 20;loaf 60;", 20, 0, 0);
        x.butter(0, 2);
        x.butter(1, 2);
        x.day(1);
        CHECK.due("the one who CUTS on that DAY is GONE, presses no more", x.guest(2, 0), 0);
        CHECK.due("GONE", x.told(8), 6);
        x.come(0);
        x.day(1);
        CHECK.due("THERE again, he does", x.guest(2, 0), 1);
        LoafTable y = wishing("press 1;resolve 9;loaf 60;", 9, 0);
        y.butter(1, 0);
        y.day(2);
        CHECK.due("one who is GONE wishes no more", y.guest(0, 0), 9);
        CHECK.due("nor HUNGERS", y.guest(0, 4), 0);
    }

    /** A CUT as a DAY goes by: who GOES takes no SLICE, who STAYS has a WISH of 0, then takes one by his number. */
    private static void cutsInADay() {
        LoafTable x = Check.laid("loaf 2;press 1;guest a wish 4 bears 9 dear 0;guest b wish 9 bears 9 dear 0 stays;"
            + "guest c wish 4 bears 9 dear 0;butter a b;");
        CHECK.due("day(1)", x.day(1), 3);
        all("the first two take a SLICE", x, 4, 0, 0, 1);
        all("the one who stays is pressed, from 0", x, 0, 4, 1, 5);
        CHECK.due("CUTS", x.told(7), 1);
        CHECK.due("SLICES", x.told(5), 0);
        CHECK.due("day(1)", x.day(1), 2);
        all("c GOES with HUNGER, takes no SLICE", x, 4, 0, 0, 1);
        all("his WISH stays", x, 0, 4, 2, 5);
        CHECK.due("THERE", x.told(8), 3);
        LoafTable y = Check.laid("loaf 1;guest a wish 0 bears 9 dear 0;guest b wish 9 bears 9 dear 0 stays;");
        y.day(1);
        all("a LOAF of 1: the first takes it", y, 4, 0, 1);
        all("who cut it has a WISH of 1", y, 0, 0, 1);
        LoafTable z = Check.laid("loaf 1;guest a wish 9 bears 9 dear 0;");
        CHECK.due("the last one GOES", z.day(1), 0);
        CHECK.due("nobody takes the SLICE", z.told(5), 1);
        CHECK.due("nobody ever", z.day(999), 0);
        CHECK.due("one SLICE", z.told(5), 1);
    }

    /** "half as many, rounded up, if he cuts an END; who GOES or cuts an END is GONE". */
    private static void ends() {
        for (int loaf = 1; loaf <= 60; loaf++) {
            LoafTable x = new LoafTable();
            x.sit(9, 9, 9, 2);
            x.sit(9, 9, 9, 0);
            x.sit(9, 9, 9, 1);
            CHECK.due("bake", x.bake(loaf), 8);
            x.mark();
            CHECK.due("an END of " + loaf, x.cut(0), loaf - loaf / 2);
            CHECK.due("SLICES", x.told(5), loaf - loaf / 2);
            CHECK.due("GONE", x.guest(0, 5), 0);
            CHECK.due("his WISH stays", x.guest(0, 0), 9);
            x.undo();
            x.mark();
            CHECK.due("one who GOES, of " + loaf, x.cut(1), loaf);
            CHECK.due("GONE", x.guest(1, 5), 0);
            CHECK.due("his WISH stays", x.guest(1, 0), 9);
            x.undo();
            CHECK.due("one who STAYS, of " + loaf, x.cut(2), loaf);
            CHECK.due("THERE", x.guest(2, 5), 1);
            CHECK.due("his WISH is 0", x.guest(2, 0), 0);
            CHECK.due("the LOAF stays", x.told(4), loaf);
        }
    }

    /** "CUT: SLICES then": by any WISH, with no SLICES alone. */
    private static void cuts() {
        LoafTable x = wishing("loaf 1;resolve 20;", 0, 0, 20);
        CHECK.due("a WISH of 0", x.cut(0), 1);
        CHECK.none("one SLICE", x, x.cut(1), 7);
        CHECK.due("CUTS", x.told(7), 1);
        CHECK.due("DAY", x.told(6), 0);
        x.day(1);
        CHECK.due("none left", x.cut(1), 1);
        CHECK.due("CUTS", x.told(7), 2);
        CHECK.none("GONE", x, x.cut(0), 7);
        x.day(1);
        CHECK.none("GONE, no SLICES", x, x.cut(0), 7);
        CHECK.due("the last GUEST's number", x.cut(2), 1);
        CHECK.due("nobody", x.told(8), 0);
    }

    /** "to whom he passed it, or how many GUESTS there are, if to nobody". */
    private static void butter() {
        LoafTable x = new LoafTable();
        x.sit(0, 0, 0, 0);
        for (int i = 1; i < 7; i++) {
            x.sit(0, 0, 0, 0);
            CHECK.due("to nobody, of " + (i + 1), x.butter(i, 0), i + 1);
            CHECK.due("STATUS", x.status(), 0);
        }
        CHECK.due("of seven", x.butter(0, 6), 7);
        CHECK.due("to the seventh", x.butter(0, 1), 6);
        CHECK.none("to that one", x, x.butter(0, 1), 7);
        CHECK.due("to the second", x.butter(0, 6), 1);
        CHECK.due("the first, number 0", x.butter(6, 5), 0);
        CHECK.due("STATUS", x.status(), 0);
        x.bake(1);
        x.cut(0);
        CHECK.due("of one who is GONE", x.butter(0, 2), 6);
        CHECK.none("of one who is GONE to that one", x, x.butter(0, 2), 7);
        CHECK.due("to one who is GONE", x.butter(5, 1), 0);
        CHECK.due("to one who is GONE, again", x.butter(5, 0), 1);
    }

    private static void soup() {
        LoafTable x = wishing("resolve 20;slices 1;", 0, 3);
        x.day(1);
        CHECK.none("no HUNGER", x, x.soup(0), 7);
        CHECK.due("HUNGER 1", x.soup(1), 1);
        CHECK.none("none then", x, x.soup(1), 7);
        CHECK.due("the WISH stays", x.guest(1, 0), 4);
        x.day(2);
        CHECK.due("HUNGER 2", x.soup(0), 2);
        CHECK.due("of the other one stays", x.guest(1, 4), 2);
        x.cut(1);
        CHECK.none("GONE", x, x.soup(1), 7);
        CHECK.due("as it was", x.guest(1, 4), 2);
    }

    private static void bake() {
        LoafTable x = wishing("slices 3;", 9);
        int before = 8;
        for (int loaf = 1; loaf <= 60; loaf++) {
            CHECK.due("bake(" + loaf + ")", x.bake(loaf), before);
            CHECK.due("LOAF", x.told(4), loaf);
            before = loaf;
        }
        CHECK.due("as many again", x.bake(60), 60);
        CHECK.due("SLICES stay", x.told(5), 3);
        x.day(3);
        CHECK.due("the next CUT", x.cut(0), 60);
    }

    private static void sway() {
        LoafTable x = wishing("", 7, 7);
        int before = 7;
        for (int wish = 0; wish <= 20; wish++) {
            CHECK.due("sway(1, " + wish + ")", x.sway(1, wish), before);
            CHECK.due("WISH", x.guest(1, 0), wish);
            before = wish;
        }
        CHECK.due("as much again", x.sway(1, 20), 20);
        CHECK.due("the other one's stays", x.guest(0, 0), 7);
    }

    /** "WISH, BEARS, DEAR 0 to 20 each, kind 0 to 2"; seven; behind those told by a TABLE and those GONE. */
    private static void sit() {
        LoafTable x = new LoafTable();
        CHECK.due("the least", x.sit(0, 0, 0, 0), 0);
        CHECK.due("the most", x.sit(20, 20, 20, 2), 1);
        CHECK.due("kind 1", x.sit(1, 2, 3, 1), 2);
        int[][] want = {{0, 0, 0, 0, 0, 1}, {20, 20, 20, 2, 0, 1}, {1, 2, 3, 1, 0, 1}};
        for (int g = 0; g < 3; g++) {
            for (int what = 0; what < 6; what++) {
                CHECK.due("guest(" + g + ", " + what + ")", x.guest(g, what), want[g][what]);
            }
            CHECK.none("BUTTER to nobody", x, x.guest(g, 6), 6);
        }
        LoafTable y = wishing("", 9, 9, 9, 9, 9);
        y.cut(4);
        CHECK.due("behind one who is GONE", y.sit(0, 0, 0, 0), 5);
        CHECK.due("THERE", y.told(8), 47);
        CHECK.due("the seventh", y.sit(0, 0, 0, 0), 6);
        CHECK.none("an eighth, though one is GONE", y, y.sit(0, 0, 0, 0), 4);
        CHECK.due("THERE", y.told(8), 111);
        LoafTable z = new LoafTable();
        z.mark();
        z.sit(5, 5, 5, 2);
        z.sit(5, 5, 5, 2);
        z.butter(0, 1);
        z.day(1);
        z.undo();
        z.sit(6, 7, 8, 0);
        CHECK.due("nothing of one who was there ahead: kind", z.guest(0, 3), 0);
        CHECK.none("BUTTER", z, z.guest(0, 6), 6);
        CHECK.due("THERE", z.told(8), 1);
    }

    /** "One who is GONE is THERE again, with WISH and HUNGER 0: how many are THERE then". */
    private static void come() {
        LoafTable x = wishing("resolve 20;loaf 1;", 0, 0, 9);
        x.butter(2, 0);
        x.day(2);
        x.cut(2);
        CHECK.due("WISH", x.guest(2, 0), 11);
        CHECK.due("HUNGER", x.guest(2, 4), 2);
        CHECK.due("come", x.come(2), 3);
        CHECK.due("WISH 0", x.guest(2, 0), 0);
        CHECK.due("HUNGER 0", x.guest(2, 4), 0);
        CHECK.due("THERE", x.told(8), 7);
        CHECK.due("BUTTER as it was", x.guest(2, 6), 0);
        CHECK.due("SLICES stay", x.told(5), 1);
        CHECK.due("CUTS stay", x.told(7), 1);
        CHECK.none("THERE", x, x.come(2), 7);
        x.day(1);
        x.cut(0);
        x.day(1);
        x.cut(1);
        x.day(1);
        x.cut(2);
        CHECK.due("the first again", x.come(0), 1);
        CHECK.due("the last again", x.come(2), 2);
        CHECK.due("THERE", x.told(8), 5);
        CHECK.due("who comes may CUT again", x.day(1), 2);
    }

    /** "ODDS (what 1: 0 to 16), RESOLVE (2: 1 to 20), PRESS (3: 1 to 6) from now on". */
    private static void rules() {
        LoafTable x = wishing("", 20);
        int[] low = {0, 1, 1};
        int[] high = {16, 20, 6};
        for (int what = 1; what <= 3; what++) {
            for (int much = -2; much <= 23; much++) {
                boolean can = much >= low[what - 1] && much <= high[what - 1];
                int before = x.told(what);
                CHECK.due("rule(" + what + ", " + much + ")", x.rule(what, much), can);
                CHECK.due("its status", x.status(), can ? 0 : 1);
                CHECK.due("told(" + what + ")", x.told(what), can ? much : before);
            }
        }
        CHECK.due("RESOLVE 20 and a WISH of 20", x.cutter(), 0);
        CHECK.fraction("ODDS 16", x, x.stale(1), 0, 1);
    }
}
