import java.util.function.Predicate;
import java.util.function.Supplier;
import java.util.function.ToLongFunction;

/**
 * Terms 5: for every call each STATUS that its promise lists in brackets, from an argument just outside of what is
 * allowed; that all stays as it was then; and of several sentences that refuse one call, which comes first.
 */
public final class RefusedTest {
    private static final int LEAST = Integer.MIN_VALUE;
    private static final int MOST = Integer.MAX_VALUE;
    private static final Check CHECK = new Check("RefusedTest");

    public static void main(String[] args) {
        trays();
        pours();
        texts();
        told();
        days();
        cuts();
        guests();
        ahead();
        plans();
        seen();
        odds();
        games();
        weeks();
        marks();
        without();
        CHECK.end();
    }

    private static void none(String what, Supplier<LoafTable> made, int status, ToLongFunction<LoafTable> call) {
        Twin.none(CHECK, what, made, status, call);
    }

    private static void not(String what, Supplier<LoafTable> made, int status, Predicate<LoafTable> call) {
        Twin.not(CHECK, what, made, status, call);
    }

    private static void trays() {
        for (int wrong : new int[] {-1, 4, LEAST, MOST}) {
            not("tray of no such TRAY " + wrong, Made::hungry, 1, x -> x.tray(wrong, 0, 1));
            not("tray of no such sort " + wrong, Made::hungry, 1, x -> x.tray(0, wrong, 1));
            not("write to no such TRAY " + wrong, Made::hungry, 1, x -> x.write(wrong, 0, 1));
            none("read of no such TRAY " + wrong, Made::hungry, 1, x -> x.read(wrong, 0));
            none("copyWishes to no such TRAY " + wrong, Made::hungry, 1, x -> x.copyWishes(wrong));
            not("write: 1 ahead of 3", Made::hungry, 1, x -> x.write(wrong, 99, 1));
            none("read: 1 ahead of 3", Made::hungry, 1, x -> x.read(wrong, -1));
        }
        for (int wrong : new int[] {-1, 61, LEAST, MOST}) {
            not("tray of " + wrong + " numbers", Made::hungry, 1, x -> x.tray(0, 0, wrong));
            not("tray of " + wrong + " numbers, one MISSING", Made::hungry, 1, x -> x.tray(2, 0, wrong));
        }
        not("write to one MISSING", Made::hungry, 2, x -> x.write(2, 0, 1));
        none("read of one MISSING", Made::hungry, 2, x -> x.read(2, 0));
        none("copyWishes to one MISSING", Made::hungry, 2, x -> x.copyWishes(2));
        for (int wrong : new int[] {-1, 5, 60, LEAST, MOST}) {
            not("write to no such place " + wrong, Made::hungry, 3, x -> x.write(0, wrong, 1));
            none("read of no such place " + wrong, Made::hungry, 3, x -> x.read(0, wrong));
            not("write: 2 ahead of 3", Made::hungry, 2, x -> x.write(2, wrong, 1));
            none("read: 2 ahead of 3", Made::hungry, 2, x -> x.read(2, wrong));
        }
        none("copyWishes to too few places", Made::seven, 3, x -> x.copyWishes(0));
        none("copyWishes: 2 ahead of 3", Made::seven, 2, x -> x.copyWishes(2));
    }

    private static void pours() {
        for (int wrong : new int[] {-1, 4, LEAST, MOST}) {
            not("pour from no such TRAY " + wrong, Made::hungry, 1, x -> x.pour(wrong, 0, 0, 0, 1));
            not("pour to no such TRAY " + wrong, Made::hungry, 1, x -> x.pour(0, 0, wrong, 0, 1));
            not("pour: 1 ahead of 2", Made::hungry, 1, x -> x.pour(2, 0, wrong, 0, 1));
        }
        for (int wrong : new int[] {-1, LEAST}) {
            not("pour from a place below 0", Made::hungry, 1, x -> x.pour(0, wrong, 3, 0, 1));
            not("pour to a place below 0", Made::hungry, 1, x -> x.pour(0, 0, 3, wrong, 1));
            not("pour of fewer than none", Made::hungry, 1, x -> x.pour(0, 0, 3, 0, wrong));
            not("pour: 1 (place) ahead of 2", Made::hungry, 1, x -> x.pour(2, wrong, 3, 0, 1));
            not("pour: 1 (at) ahead of 2", Made::hungry, 1, x -> x.pour(0, 0, 2, wrong, 1));
            not("pour: 1 (many) ahead of 8", Made::hungry, 1, x -> x.pour(0, 0, 1, 0, wrong));
            not("pour: 1 (at) ahead of 3", Made::hungry, 1, x -> x.pour(0, 99, 3, wrong, 99));
        }
        not("pour from one MISSING", Made::hungry, 2, x -> x.pour(2, 0, 0, 0, 1));
        not("pour to one MISSING", Made::hungry, 2, x -> x.pour(0, 0, 2, 0, 1));
        not("pour of one MISSING to itself", Made::hungry, 2, x -> x.pour(2, 0, 2, 0, 0));
        not("pour: 2 ahead of 3", Made::hungry, 2, x -> x.pour(0, 99, 2, 99, 99));
        not("pour: 2 ahead of 8", Made::hungry, 2, x -> x.pour(1, 0, 2, 0, 1));
        not("pour of unlike sorts", Made::hungry, 8, x -> x.pour(0, 0, 1, 0, 1));
        not("pour of unlike sorts, nothing", Made::hungry, 8, x -> x.pour(1, 0, 0, 0, 0));
        not("pour: 8 ahead of 3", Made::hungry, 8, x -> x.pour(0, 99, 1, 0, 1));
        not("pour: 8 ahead of 3", Made::hungry, 8, x -> x.pour(0, 0, 1, 4, 9));
        not("pour of one too many", Made::hungry, 3, x -> x.pour(0, 0, 3, 0, 6));
        not("pour from one place too high", Made::hungry, 3, x -> x.pour(0, 1, 3, 0, 5));
        not("pour from the place behind all", Made::hungry, 3, x -> x.pour(0, 5, 3, 0, 1));
        not("pour to one place too high", Made::hungry, 3, x -> x.pour(3, 0, 0, 1, 5));
        not("pour to the place behind all", Made::hungry, 3, x -> x.pour(0, 0, 3, 40, 1));
        not("pour of nothing from beyond", Made::hungry, 3, x -> x.pour(0, 6, 3, 0, 0));
        not("pour of nothing to beyond", Made::hungry, 3, x -> x.pour(0, 0, 3, 41, 0));
        not("pour: place and many wrap around", Made::hungry, 3, x -> x.pour(0, 1, 3, 0, MOST));
        not("pour: many and place wrap around", Made::hungry, 3, x -> x.pour(0, MOST, 3, 0, 1));
        not("pour: at and many wrap around", Made::hungry, 3, x -> x.pour(0, 0, 3, MOST, 1));
        not("pour: all wrap around", Made::hungry, 3, x -> x.pour(3, MOST, 3, MOST, MOST));
    }

    private static void texts() {
        for (int wrong : new int[] {-1, 41, 901, LEAST, MOST}) {
            none("table of " + wrong + " of 40 bytes", Made::hungry, 1, x -> x.table(wrong));
            none("weeks of " + wrong + " of 40 bytes", Made::hungry, 1, x -> x.weeks(wrong));
        }
        none("table of 1 of no bytes", Made::bare, 1, x -> x.table(1));
        none("weeks of 1 of no bytes", Made::bare, 1, x -> x.weeks(1));
        none("weeks of 301 bytes, of 320", RefusedTest::wordy, 1, x -> x.weeks(301));
        none("weeks of all 320 bytes", RefusedTest::wordy, 1, x -> x.weeks(320));
        none("table of 321 bytes, of 320", RefusedTest::wordy, 1, x -> x.table(321));
        // the tape and what fault() tells are all that changes by a FAULT
        Supplier<LoafTable> emptied = () -> {
            LoafTable x = Made.hungry();
            x.weeks(4);
            return x;
        };
        Supplier<LoafTable> faulty = () -> {
            LoafTable x = Made.hungry();
            CHECK.none("a table with a FAULT", x, x.table(5), 9);
            return x;
        };
        LoafTable one = emptied.get();
        LoafTable other = faulty.get();
        CHECK.due("its place", other.fault(1), 5);
        CHECK.due("the other's place", one.fault(1), 0);
        one.weeks(0);
        other.weeks(0);
        Twin.same(CHECK, "a table with a FAULT", other, one);
        LoafTable third = Made.hungry();
        CHECK.none("a fault of weeks", third, third.weeks(40), 9);
        LoafTable fourth = Made.hungry();
        CHECK.none("a fault of table", fourth, fourth.table(38), 9);
        CHECK.due("the same sign, in weeks at the first WORD", third.fault(0) * 100 + third.fault(1), 200);
        CHECK.due("in the table behind the last", fourth.fault(0) * 100 + fourth.fault(1), 137);
        CHECK.none("the tape is empty behind a FAULT", third, third.table(1), 1);
        CHECK.none("and here", fourth, fourth.table(1), 1);
    }

    private static LoafTable wordy() {
        LoafTable x = Made.bare();
        Check.feed(x, "any;".repeat(80));
        return x;
    }

    private static void told() {
        for (int wrong : new int[] {-1, 11, LEAST, MOST}) {
            none("told(" + wrong + ")", Made::hungry, 1, x -> x.told(wrong));
        }
        for (int wrong : new int[] {-1, 4, 7, LEAST, MOST}) {
            none("guest(" + wrong + ", 0)", Made::hungry, 1, x -> x.guest(wrong, 0));
            none("guest: 1 ahead of 6", Made::hungry, 1, x -> x.guest(wrong, 6));
        }
        for (int wrong : new int[] {-1, 8, LEAST, MOST}) {
            none("guest(0, " + wrong + ")", Made::hungry, 1, x -> x.guest(0, wrong));
        }
        none("guest(0, 0) of nobody", LoafTable::new, 1, x -> x.guest(0, 0));
        none("guest(2, 6): to nobody", Made::hungry, 6, x -> x.guest(2, 6));
        none("cutter() as there are SLICES", Made::bread, 6, x -> x.cutter());
        none("cutter() of small WISHES", Made::bare, 6, x -> x.cutter());
        none("cutter() of nobody THERE", Made::deserted, 6, x -> x.cutter());
        none("cutter() of no GUESTS", LoafTable::new, 6, x -> x.cutter());
        none("wanted() without BUTTER", Made::bare, 6, x -> x.wanted());
        none("wanted() of nobody THERE", Made::deserted, 6, x -> x.wanted());
        none("wanted() of no GUESTS", LoafTable::new, 6, x -> x.wanted());
    }

    private static void days() {
        for (int wrong : new int[] {0, -1, 1000, LEAST, MOST}) {
            none("day(" + wrong + ")", Made::hungry, 1, x -> x.day(wrong));
            none("day: 1 ahead of 7", Made::lastDay, 1, x -> x.day(wrong));
        }
        none("day(1) above 9,999", Made::lastDay, 7, x -> x.day(1));
        none("day(999) above 9,999", Made::lastDay, 7, x -> x.day(999));
        for (int wrong : new int[] {0, -1, 61, LEAST, MOST}) {
            none("bake(" + wrong + ")", Made::hungry, 1, x -> x.bake(wrong));
        }
        int[][] rules = {{0, 1}, {4, 1}, {-1, 1}, {LEAST, 1}, {MOST, 1}, {1, -1}, {1, 17}, {1, LEAST}, {1, MOST}, {2, 0}, {2, 21},
            {2, LEAST}, {2, MOST}, {3, 0}, {3, 7}, {3, LEAST}, {3, MOST}};
        for (int[] wrong : rules) {
            not("rule(" + wrong[0] + ", " + wrong[1] + ")", Made::hungry, 1, x -> x.rule(wrong[0], wrong[1]));
        }
    }

    private static void cuts() {
        for (int wrong : new int[] {-1, 4, 7, LEAST, MOST}) {
            none("cut(" + wrong + ")", Made::hungry, 1, x -> x.cut(wrong));
            none("cut: 1 ahead of 7", Made::bread, 1, x -> x.cut(wrong));
            none("soup(" + wrong + ")", Made::hungry, 1, x -> x.soup(wrong));
            none("butter(" + wrong + ", 0)", Made::hungry, 1, x -> x.butter(wrong, 0));
            none("butter(0, " + wrong + ")", Made::hungry, 1, x -> x.butter(0, wrong));
            none("butter of no such one to himself", Made::hungry, 1, x -> x.butter(wrong, wrong));
        }
        none("cut by one who is GONE", Made::hungry, 7, x -> x.cut(0));
        none("cut as there are SLICES", Made::bread, 7, x -> x.cut(1));
        none("cut by one who is GONE as there are SLICES", Made::bread, 7, x -> x.cut(0));
        for (int i = 0; i < 4; i++) {
            int guest = i;
            none("butter to himself " + i, Made::hungry, 1, x -> x.butter(guest, guest));
        }
        none("butter to whom he passes it", Made::hungry, 7, x -> x.butter(1, 0));
        none("butter of one who is GONE to whom he passes it", Made::hungry, 7, x -> x.butter(0, 1));
        none("soup for one who is GONE", Made::deserted, 7, x -> x.soup(0));
        none("soup without HUNGER", Made::hungry, 7, x -> x.soup(1));
        none("soup for one who is GONE, with HUNGER", () -> {
            LoafTable x = Made.hungry();
            x.cut(3);
            return x;
        }, 7, x -> x.soup(3));
    }

    private static void guests() {
        for (int wrong : new int[] {-1, 4, 7, LEAST, MOST}) {
            none("sway(" + wrong + ", 0)", Made::hungry, 1, x -> x.sway(wrong, 0));
            none("come(" + wrong + ")", Made::hungry, 1, x -> x.come(wrong));
        }
        for (int wrong : new int[] {-1, 21, LEAST, MOST}) {
            none("sway(1, " + wrong + ")", Made::hungry, 1, x -> x.sway(1, wrong));
            none("sway: 1 ahead of 7", Made::hungry, 1, x -> x.sway(0, wrong));
            none("sit: a WISH of " + wrong, Made::hungry, 1, x -> x.sit(wrong, 0, 0, 0));
            none("sit: BEARS " + wrong, Made::hungry, 1, x -> x.sit(0, wrong, 0, 0));
            none("sit: DEAR " + wrong, Made::hungry, 1, x -> x.sit(0, 0, wrong, 0));
            none("sit: 1 (WISH) ahead of 4", Made::seven, 1, x -> x.sit(wrong, 0, 0, 0));
            none("sit: 1 (BEARS) ahead of 4", Made::seven, 1, x -> x.sit(0, wrong, 0, 0));
            none("sit: 1 (DEAR) ahead of 4", Made::seven, 1, x -> x.sit(0, 0, wrong, 0));
        }
        for (int wrong : new int[] {-1, 3, LEAST, MOST}) {
            none("sit: kind " + wrong, Made::hungry, 1, x -> x.sit(0, 0, 0, wrong));
            none("sit: 1 (kind) ahead of 4", Made::seven, 1, x -> x.sit(0, 0, 0, wrong));
        }
        none("sway of one who is GONE", Made::hungry, 7, x -> x.sway(0, 3));
        none("sway of one who is GONE to what it is", Made::hungry, 7, x -> x.sway(0, 9));
        none("sit: an eighth", Made::seven, 4, x -> x.sit(0, 0, 0, 0));
        none("come of one THERE", Made::hungry, 7, x -> x.come(1));
    }

    private static void ahead() {
        for (int wrong : new int[] {-1, 100, LEAST, MOST}) {
            none("thereIn(" + wrong + ")", Made::hungry, 1, x -> x.thereIn(wrong));
            none("slicesIn(" + wrong + ")", Made::hungry, 1, x -> x.slicesIn(wrong));
            none("guestIn(0, " + wrong + ", 0)", Made::hungry, 1, x -> x.guestIn(0, wrong, 0));
        }
        for (int wrong : new int[] {-1, 4, 7, LEAST, MOST}) {
            none("guestIn(" + wrong + ", 0, 0)", Made::hungry, 1, x -> x.guestIn(wrong, 0, 0));
        }
        for (int wrong : new int[] {-1, 2, LEAST, MOST}) {
            none("guestIn(0, 0, " + wrong + ")", Made::hungry, 1, x -> x.guestIn(0, 0, wrong));
        }
        none("next() of nobody THERE", Made::deserted, 6, x -> x.next());
        none("nextBy() of nobody THERE", Made::deserted, 6, x -> x.nextBy());
        none("next() of no GUESTS", LoafTable::new, 6, x -> x.next());
        none("nextBy() of no GUESTS", LoafTable::new, 6, x -> x.nextBy());
        none("starving() of nobody THERE", Made::deserted, 6, x -> x.starving());
        none("starving() of no GUESTS", LoafTable::new, 6, x -> x.starving());
        for (int wrong : new int[] {0, -1, 21, LEAST, MOST}) {
            none("least(" + wrong + ")", Made::hungry, 1, x -> x.least(wrong));
            none("least: 1 ahead of 6", Made::bare, 1, x -> x.least(wrong));
        }
        none("least by none", Made::bare, 6, x -> x.least(1));
        none("least by none in 20 DAYS", Made::bare, 6, x -> x.least(20));
    }

    private static void plans() {
        for (int wrong : new int[] {0, -1, 6, LEAST, MOST}) {
            none("plan(" + wrong + ")", Made::hungry, 1, x -> x.plan(wrong));
            none("planAt(" + wrong + ", 0)", Made::hungry, 1, x -> x.planAt(wrong, 0));
            none("plan: 1 ahead of 6", Made::famine, 1, x -> x.plan(wrong));
        }
        for (int n = 1; n <= 5; n++) {
            for (int wrong : new int[] {-1, n, LEAST, MOST}) {
                int days = n;
                none("planAt(" + n + ", " + wrong + ")", Made::hungry, 1, x -> x.planAt(days, wrong));
                none("planAt: 1 ahead of 6", Made::famine, 1, x -> x.planAt(days, wrong));
            }
        }
        none("plan: there is none", Made::famine, 6, x -> x.plan(1));
        none("plan: there is none for 5", Made::famine, 6, x -> x.plan(5));
        none("planAt: there is none", Made::famine, 6, x -> x.planAt(1, 0));
        none("planAt: there is none for 5", Made::famine, 6, x -> x.planAt(5, 4));
    }

    /** Bad numbers stand in TRAY 0: -2 at 1, -4 at 3; TRAY 3 tells 20 times that 0 are THERE now; TRAY 2 is MISSING. */
    private static void seen() {
        for (int wrong : new int[] {-1, 4, 7, LEAST, MOST}) {
            sights("no such GUEST " + wrong, 1, wrong, 3, 1);
            sights("1 (GUEST) ahead of 2", 1, wrong, 2, 1);
        }
        for (int wrong : new int[] {-1, 4, LEAST, MOST}) {
            sights("no such TRAY " + wrong, 1, 1, wrong, 1);
        }
        for (int wrong : new int[] {-1, 21, LEAST, MOST, 1 << 30, 1 << 31}) {
            sights("a number of twos that can't be " + wrong, 1, 1, 3, wrong);
            sights("1 (twos) ahead of 2", 1, 1, 2, wrong);
            sights("1 (twos) ahead of 3", 1, 1, 0, wrong);
        }
        sights("one MISSING", 2, 1, 2, 0);
        sights("2 ahead of 3", 2, 1, 2, 20);
        sights("too few numbers", 3, 1, 0, 3);
        sights("3 ahead of 5", 3, 1, 0, 20);
        sights("a number that can't be", 5, 1, 0, 1);
        sights("5 ahead of 6", 5, 1, 0, 2);
        for (int wrong : new int[] {-1, 2, LEAST, MOST}) {
            none("seenAs what " + wrong, Made::hungry, 1, x -> x.seenAs(1, 3, 0, wrong));
            none("seenAs: 1 (what) ahead of 2", Made::hungry, 1, x -> x.seenAs(1, 2, 0, wrong));
            none("seenAs: 1 (what) ahead of 3", Made::hungry, 1, x -> x.seenAs(1, 0, 3, wrong));
            none("seenAs: 1 (what) ahead of 5", Made::hungry, 1, x -> x.seenAs(1, 0, 1, wrong));
            none("seenAs: 1 (what) ahead of 6", Made::hungry, 1, x -> x.seenAs(1, 3, 1, wrong));
        }
        none("seenAs: there is none", Made::hungry, 6, x -> x.seenAs(1, 3, 1, 0));
        none("ask: there is none", Made::hungry, 6, x -> x.ask(1, 3, 1));
        none("ask of one couple: fewer than two", () -> {
            LoafTable x = Check.laid("guest a wish 0 bears 0 dear 0;");
            x.tray(0, 2, 4);
            x.write(0, 0, 9);
            x.write(0, 1, 1);
            x.write(0, 2, 10);
            return x;
        }, 6, x -> x.ask(0, 0, 2));
    }

    private static void sights(String what, int status, int guest, int tray, int n) {
        none("seen: " + what, Made::hungry, status, x -> x.seen(guest, tray, n));
        none("seenAs: " + what, Made::hungry, status, x -> x.seenAs(guest, tray, n, 1));
        none("ask: " + what, Made::hungry, status, x -> x.ask(guest, tray, n));
    }

    private static void odds() {
        for (int wrong : new int[] {-1, 4, 7, LEAST, MOST}) {
            not("waits(" + wrong + ", 0)", Made::hungry, 1, x -> x.waits(wrong, 0));
            not("waits(0, " + wrong + ")", Made::hungry, 1, x -> x.waits(0, wrong));
            not("share(" + wrong + ")", Made::hungry, 1, x -> x.share(wrong));
            not("share: 1 ahead of 6", Made::deserted, 1, x -> x.share(wrong));
        }
        not("waits of one for himself", Made::hungry, 1, x -> x.waits(3, 3));
        for (int wrong : new int[] {-1, 7, LEAST, MOST}) {
            not("chance(" + wrong + ", 0)", Made::hungry, 1, x -> x.chance(wrong, 0));
            not("chance(0, " + wrong + ")", Made::hungry, 1, x -> x.chance(0, wrong));
        }
        for (int wrong : new int[] {-1, 13, LEAST, MOST}) {
            not("stale(" + wrong + ")", Made::hungry, 1, x -> x.stale(wrong));
        }
        not("share of one who is GONE", Made::hungry, 7, x -> x.share(0));
        not("share: nothing is DEAR", Made::deserted, 6, x -> x.share(1));
        not("share: 6 ahead of 7", Made::deserted, 6, x -> x.share(0));
    }

    private static void games() {
        for (int wrong : new int[] {-1, 4, 7, LEAST, MOST}) {
            none("game(" + wrong + ", 0, 1)", Made::hungry, 1, x -> x.game(wrong, 0, 1));
            none("game(0, " + wrong + ", 1)", Made::hungry, 1, x -> x.game(0, wrong, 1));
            none("moveOf(" + wrong + ", 0, 1)", Made::hungry, 1, x -> x.moveOf(wrong, 0, 1));
            none("moveOf(0, " + wrong + ", 1)", Made::hungry, 1, x -> x.moveOf(0, wrong, 1));
            none("moveOf: 1 ahead of 6", Made::deserted, 1, x -> x.moveOf(0, wrong, 1));
        }
        for (int wrong : new int[] {-1, 4, LEAST, MOST}) {
            none("game(0, 1, " + wrong + ")", Made::hungry, 1, x -> x.game(0, 1, wrong));
            none("moveOf(0, 1, " + wrong + ")", Made::hungry, 1, x -> x.moveOf(0, 1, wrong));
        }
        none("moveOf: n 0, too", Made::hungry, 1, x -> x.moveOf(0, 1, 0));
        none("moveOf: 1 (n 0) ahead of 6", Made::deserted, 1, x -> x.moveOf(0, 1, 0));
        none("game of one and himself", Made::hungry, 1, x -> x.game(1, 1, 1));
        none("moveOf of one and himself", Made::hungry, 1, x -> x.moveOf(1, 1, 1));
        none("moveOf: nothing", Made::deserted, 6, x -> x.moveOf(0, 1, 3));
    }

    private static void weeks() {
        for (int wrong : new int[] {-1, 10000, LEAST, MOST}) {
            none("live(" + wrong + ")", Made::hungry, 1, x -> x.live(wrong));
            none("live: 1 ahead of 6", Made::bare, 1, x -> x.live(wrong));
            not("mean(" + wrong + ", 1)", Made::hungry, 1, x -> x.mean(wrong, 1));
            not("mean: 1 (seed) ahead of 6", Made::bare, 1, x -> x.mean(wrong, 1));
        }
        for (int wrong : new int[] {0, -1, 21, LEAST, MOST}) {
            not("mean(0, " + wrong + ")", Made::hungry, 1, x -> x.mean(0, wrong));
            not("mean: 1 (many) ahead of 6", Made::bare, 1, x -> x.mean(0, wrong));
        }
        not("mean: the last above 9,999", Made::hungry, 1, x -> x.mean(9999, 2));
        not("mean: the last of 20 above 9,999", Made::hungry, 1, x -> x.mean(9981, 20));
        not("mean: the last wraps around", Made::hungry, 1, x -> x.mean(9999, MOST));
        not("mean: 1 (the last) ahead of 6", Made::bare, 1, x -> x.mean(9999, 2));
        none("live without WEEKS", Made::bare, 6, x -> x.live(0));
        none("live of a new object", LoafTable::new, 6, x -> x.live(9999));
        not("mean without WEEKS", Made::bare, 6, x -> x.mean(0, 1));
        not("mean of a new object", LoafTable::new, 6, x -> x.mean(9980, 20));
        for (int wrong : new int[] {-1, 5, LEAST, MOST}) {
            none("lived(" + wrong + ")", Made::hungry, 1, x -> x.lived(wrong));
            none("lived: 1 ahead of 6", Made::bare, 1, x -> x.lived(wrong));
        }
        for (int i = 0; i <= 4; i++) {
            int what = i;
            none("lived(" + i + ") of none", Made::bare, 6, x -> x.lived(what));
        }
    }

    private static void marks() {
        none("a fourth MARK", Made::marked, 4, x -> x.mark());
        none("undo without MARKS", Made::bare, 6, x -> x.undo());
        none("undo of a new object", LoafTable::new, 6, x -> x.undo());
        none("undo behind the last MARK", () -> {
            LoafTable x = Made.hungry();
            x.undo();
            x.undo();
            return x;
        }, 6, x -> x.undo());
    }

    /** The calls that have no STATUS. */
    private static void without() {
        LoafTable x = Made.hungry();
        x.told(-1);
        CHECK.due("STATUS", x.status(), 1);
        CHECK.due("status() has none", x.status(), 1);
        CHECK.due("top()", x.top(), 11);
        CHECK.due("has none", x.status(), 1);
        CHECK.due("bottom()", x.bottom(), 36);
        CHECK.due("has none", x.status(), 1);
        CHECK.due("feed()", x.feed(0, 0, 0, 0, 0), 60);
        CHECK.due("has none", x.status(), 1);
        for (int i = 80; i <= 900; i += 20) {
            CHECK.due("feed()", x.feed(0, 0, 0, 0, 0), i);
        }
        CHECK.due("feed() beyond 900", x.feed(0, 0, 0, 0, 0), -1);
        CHECK.due("has none", x.status(), 1);
        CHECK.due("fault(0)", x.fault(0), 4);
        CHECK.due("fault(1)", x.fault(1), 4);
        CHECK.due("fault(2)", x.fault(2), -1);
        CHECK.due("has none", x.status(), 1);
        CHECK.due("told(0)", x.told(0), 4);
        CHECK.due("STATUS", x.status(), 0);
        x.fault(-1);
        x.feed(0, 0, 0, 0, 0);
        CHECK.due("none of these have one", x.status(), 0);
    }
}
