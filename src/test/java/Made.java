/** Objects in states that the tests of refused calls begin from; made the same at each call. */
final class Made {
    static final String FOUR = "odds 7;resolve 6;press 1;loaf 5;guest a wish 9 bears 1 dear 4;guest b wish 2 bears 0 dear 6 stays;"
        + "guest c wish 8 bears 20 dear 0 end;guest d wish 0 bears 2 dear 3;butter a b;butter b a;butter d b;";

    private Made() {
    }

    /**
     * DAY 2, no SLICES, a is GONE, d HUNGERS, c would CUT; WEEKS, LIVED once; two MARKS; the FRACTION 11 by 36;
     * the FAULT 4 at 4; TRAY 2 is MISSING; 40 bytes on the tape.
     */
    static LoafTable hungry() {
        LoafTable x = Check.laid(FOUR);
        Check.weeks(x, "any;day 2;when hungry d;soup d;end;");
        x.mark();
        x.live(77);
        x.undo();
        x.mark();
        x.cut(0);
        x.day(1);
        x.mark();
        x.day(1);
        x.chance(2, 1);
        x.tray(0, 0, 5);
        x.tray(1, 1, 4);
        x.tray(3, 0, 40);
        for (int i = 0; i < 4; i++) {
            x.write(0, i, i % 2 == 0 ? i + 1 : -i - 1);
            x.write(1, i, 1000 * i + 7);
        }
        Check.weeks(x, "day 99;");
        Check.feed(x, "odds 3;guest z wish 1 bears 2 dear 3;");
        return x;
    }

    /** As hungry(), but b has cut and stays: there are 5 SLICES. */
    static LoafTable bread() {
        LoafTable x = hungry();
        x.cut(1);
        return x;
    }

    /** As hungry(), with seven GUESTS. */
    static LoafTable seven() {
        LoafTable x = hungry();
        x.sit(1, 2, 3, 0);
        x.sit(4, 5, 6, 1);
        x.sit(7, 8, 9, 2);
        return x;
    }

    /** As hungry(), with all MARKS. */
    static LoafTable marked() {
        LoafTable x = hungry();
        x.mark();
        return x;
    }

    /** A TABLE of two without WEEKS, MARKS, TRAYS, LIVED, an empty tape. */
    static LoafTable bare() {
        return Check.laid("resolve 9;guest a wish 1 bears 0 dear 2;guest b wish 0 bears 0 dear 0 stays;");
    }

    /** As bare(), on DAY 9,999. */
    static LoafTable lastDay() {
        LoafTable x = bare();
        x.bake(60);
        for (int i = 0; i < 10; i++) {
            x.day(999);
        }
        x.day(9);
        return x;
    }

    /** Two GUESTS, both GONE; one SLICE; WEEKS. */
    static LoafTable deserted() {
        LoafTable x = Check.laid("loaf 1;resolve 20;guest a wish 0 bears 0 dear 5;guest b wish 0 bears 0 dear 0 end;");
        Check.weeks(x, "any;");
        x.cut(0);
        x.day(1);
        x.cut(1);
        return x;
    }

    /** Two who bear no HUNGER and a LOAF of 1, cut by one who stays: the other one starves in any case. */
    static LoafTable famine() {
        LoafTable x = Check.laid("loaf 1;guest a wish 0 bears 0 dear 1 stays;guest b wish 0 bears 0 dear 1 stays;");
        Check.weeks(x, "any;");
        return x;
    }
}
