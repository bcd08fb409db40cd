/** Terms 4 (MARKS), promises 1, 2, 49 and 50: a check for each edge that they name; refusals are in RefusedTest. */
public final class MarkEdgeTest {
    private static final Check CHECK = new Check("MarkEdgeTest");

    public static void main(String[] args) {
        newObject();
        latestStatus();
        atMostThree();
        keptAsTheyAre();
        takenBackInTurn();
        otherTable();
        names();
        whatIsNotKept();
        CHECK.end();
    }

    /** Promise 1, each thing of it. */
    private static void newObject() {
        CHECK.due("STATUS 0", new LoafTable().status(), 0);
        LoafTable x = new LoafTable();
        CHECK.due("the FRACTION 0", x.top(), 0);
        CHECK.due("by 1", x.bottom(), 1);
        CHECK.due("no FAULT told", x.fault(0), -1);
        CHECK.due("nor its place", x.fault(1), -1);
        CHECK.due("STATUS 0 still", x.status(), 0);
        int[] told = {0, 4, 5, 2, 8, 0, 0, 0, 0, 0, 0};
        for (int what = 0; what < told.length; what++) {
            CHECK.due("told(" + what + ")", x.told(what), told[what]);
        }
        CHECK.none("nobody", x, x.guest(0, 0), 1);
        CHECK.none("no WEEKS", x, x.live(0), 6);
        CHECK.none("none LIVED", x, x.lived(0), 6);
        CHECK.none("no MARKS", x, x.undo(), 6);
        CHECK.none("an empty tape", x, x.table(1), 1);
        CHECK.none("an empty tape", x, x.weeks(1), 1);
        CHECK.due("an empty tape", x.feed(0, 0, 0, 0, 0), 20);
        for (int tray = 0; tray <= 3; tray++) {
            CHECK.none("TRAY " + tray + " is MISSING", x, x.read(tray, 0), 2);
        }
        LoafTable y = new LoafTable();
        CHECK.due("another object has its own TABLE", y.sit(0, 0, 0, 0), 0);
        CHECK.due("another object has its own MARKS", y.mark(), 1);
        CHECK.due("nobody is there yet", x.told(0), 0);
        CHECK.none("no MARK", x, x.undo(), 6);
    }

    /** "STATUS of the latest call that has one." */
    private static void latestStatus() {
        LoafTable x = new LoafTable();
        x.told(11);
        CHECK.due("1", x.status(), 1);
        x.read(0, 0);
        CHECK.due("2", x.status(), 2);
        x.tray(0, 0, 0);
        CHECK.due("0", x.status(), 0);
        x.read(0, 0);
        CHECK.due("3", x.status(), 3);
        x.mark();
        x.mark();
        x.mark();
        x.mark();
        CHECK.due("4", x.status(), 4);
        x.sit(0, 0, 0, 0);
        x.tray(1, 1, 2);
        x.write(1, 0, -1);
        x.seen(0, 1, 1);
        CHECK.due("5", x.status(), 5);
        x.cutter();
        CHECK.due("6", x.status(), 6);
        x.come(0);
        CHECK.due("7", x.status(), 7);
        x.pour(0, 0, 1, 0, 0);
        CHECK.due("8", x.status(), 8);
        x.feed(0x21212121, 0, 0, 0, 0);
        x.table(1);
        CHECK.due("9", x.status(), 9);
        x.status();
        x.top();
        x.bottom();
        x.fault(0);
        x.feed(0, 0, 0, 0, 0);
        CHECK.due("9 still", x.status(), 9);
        x.told(0);
        CHECK.due("0", x.status(), 0);
    }

    /** "MARKS, at most 3"; "A MARK more: how many there are"; "how many there are left". */
    private static void atMostThree() {
        LoafTable x = new LoafTable();
        for (int round = 0; round < 3; round++) {
            for (int i = 1; i <= 3; i++) {
                CHECK.due("MARK", x.mark(), i);
                CHECK.due("STATUS", x.status(), 0);
            }
            CHECK.none("a fourth", x, x.mark(), 4);
            CHECK.none("a fourth", x, x.mark(), 4);
            for (int i = 2; i >= 0; i--) {
                CHECK.due("left", x.undo(), i);
                CHECK.due("STATUS", x.status(), 0);
            }
            CHECK.none("none left", x, x.undo(), 6);
        }
    }

    /** "the TABLE with all that became of it, the WEEKS are kept as they are": whatever comes behind the MARK. */
    private static void keptAsTheyAre() {
        LoafTable plain = Made.hungry();
        LoafTable back = Made.hungry();
        CHECK.due("MARK", back.mark(), 3);
        back.rule(1, 0);
        back.rule(2, 1);
        back.rule(3, 6);
        back.bake(59);
        back.sway(1, 19);
        back.soup(3);
        back.butter(0, 3);
        back.butter(1, 3);
        back.butter(2, 3);
        back.come(0);
        back.sit(1, 1, 1, 1);
        back.cut(2);
        back.day(99);
        back.live(0);
        CHECK.due("taken back", back.undo(), 2);
        for (int what = 0; what <= 10; what++) {
            CHECK.due("told(" + what + ")", back.told(what), plain.told(what));
        }
        for (int guest = 0; guest < 4; guest++) {
            for (int what = 0; what <= 7; what++) {
                CHECK.due("guest(" + guest + ", " + what + ")", back.guest(guest, what), plain.guest(guest, what));
            }
        }
        // what lived() tells is not taken back: both come to the same of their own
        back.live(5);
        plain.live(5);
        Twin.same(CHECK, "a MARK and all that came behind it, taken back", back, plain);
    }

    /** "all is taken back to the latest MARK, which is gone then". */
    private static void takenBackInTurn() {
        LoafTable x = Check.laid("resolve 20;guest a wish 0 bears 9 dear 0;");
        for (int i = 1; i <= 3; i++) {
            CHECK.due("MARK", x.mark(), i);
            x.day(1);
        }
        CHECK.due("DAY", x.told(6), 3);
        CHECK.due("left", x.undo(), 2);
        CHECK.due("DAY", x.told(6), 2);
        CHECK.due("HUNGER", x.guest(0, 4), 2);
        x.day(5);
        CHECK.due("MARK", x.mark(), 3);
        x.day(5);
        CHECK.due("the one made anew", x.undo(), 2);
        CHECK.due("DAY", x.told(6), 7);
        CHECK.due("left", x.undo(), 1);
        CHECK.due("DAY", x.told(6), 1);
        CHECK.due("left", x.undo(), 0);
        CHECK.due("DAY", x.told(6), 0);
        CHECK.due("HUNGER", x.guest(0, 4), 0);
        CHECK.none("none left", x, x.undo(), 6);
        CHECK.due("DAY stays", x.told(6), 0);
    }

    /** A TABLE that is taken leaves the MARKS; WEEKS come back, and are none again, as they were. */
    private static void otherTable() {
        LoafTable x = new LoafTable();
        x.mark();
        Check.weeks(x, "any;any;");
        x.mark();
        CHECK.due("seven", Check.table(x, "guest a wish 1 bears 1 dear 1;guest b wish 1 bears 1 dear 1;guest c wish 1 bears 1 dear 1;"
            + "guest d wish 1 bears 1 dear 1;guest e wish 1 bears 1 dear 1;guest f wish 1 bears 1 dear 1;guest g wish 1 bears 1 dear 1;"), 7);
        CHECK.none("no WEEKS", x, x.live(0), 6);
        Check.weeks(x, "day 1;day 1;day 1;");
        CHECK.due("a third MARK", x.mark(), 3);
        Check.weeks(x, "");
        CHECK.due("nobody", Check.table(x, ""), 0);
        CHECK.due("seven again", x.undo(), 2);
        CHECK.due("GUESTS", x.told(0), 7);
        CHECK.due("their WEEKS", x.live(0), 3);
        CHECK.due("nobody again", x.undo(), 1);
        CHECK.due("GUESTS", x.told(0), 0);
        CHECK.due("the WEEKS ahead", x.live(0), 2);
        CHECK.due("as at first", x.undo(), 0);
        CHECK.none("no WEEKS", x, x.live(0), 6);
        CHECK.not("no WEEKS", x, x.mean(0, 1), 6);
    }

    /** The NAMES are the TABLE's, too. */
    private static void names() {
        LoafTable x = Check.laid("guest old wish 1 bears 1 dear 1;guest two wish 1 bears 1 dear 1;");
        x.mark();
        Check.table(x, "guest new wish 1 bears 1 dear 1;");
        CHECK.due("new", Check.weeks(x, "soup new;"), 1);
        CHECK.faulty(x, true, "soup old;", 3, 5);
        x.undo();
        CHECK.due("old", Check.weeks(x, "soup old;soup two;"), 2);
        CHECK.faulty(x, true, "soup new;", 3, 5);
        x.sit(0, 0, 0, 0);
        CHECK.faulty(x, true, "soup new;", 3, 5);
    }

    /** TRAYS, tape, the FRACTION, what fault() and lived() tell are no part of it. */
    private static void whatIsNotKept() {
        LoafTable x = Check.laid("guest a wish 7 bears 1 dear 1;");
        x.tray(0, 0, 2);
        x.mark();
        x.write(0, 0, 5);
        x.tray(1, 3, 1);
        x.feed(0x6f646473, 0x20393b20, 0x20202020, 0x20202020, 0x20202020);
        x.chance(1, 1);
        CHECK.due("undo", x.undo(), 0);
        CHECK.due("the number stays", x.read(0, 0), 5);
        CHECK.due("the TRAY stays", x.read(1, 0), 0);
        CHECK.due("STATUS", x.status(), 0);
        CHECK.due("the FRACTION stays", x.top() * 100 + x.bottom(), 106);
        CHECK.due("the tape stays", x.table(8), 0);
        CHECK.due("ODDS", x.told(1), 9);
        x.mark();
        Check.weeks(x, "day 2;end;");
        x.undo();
        CHECK.due("FAULT", x.fault(0) * 100 + x.fault(1), 206);
        x.mark();
        Check.weeks(x, "day 2;");
        x.live(0);
        x.undo();
        CHECK.due("LIVED", x.lived(1), 2);
    }
}
