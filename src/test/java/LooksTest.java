import java.lang.reflect.InvocationTargetException;
import java.lang.reflect.Method;
import java.util.ArrayList;
import java.util.List;
import java.util.Set;
import java.util.TreeSet;
import java.util.function.Supplier;
import java.util.function.ToLongFunction;

/**
 * Terms 3 and 5: what is told of days ahead changes nothing; by any numbers whatever no call throws, each has a
 * STATUS that its promise lists, and NONE or false with any other than 0.
 */
public final class LooksTest {
    private static final Check CHECK = new Check("LooksTest");
    /** The STATUS that each promise lists in brackets, beside 0. */
    static final String[] LISTED = {"tray 1", "write 123", "read 123", "pour 1283", "table 19", "weeks 19", "told 1",
        "guest 16", "cutter 6", "wanted 6", "day 17", "cut 17", "butter 17", "soup 17", "bake 1", "sway 17", "sit 14", "come 17",
        "rule 1", "thereIn 1", "slicesIn 1", "guestIn 1", "next 6", "nextBy 6", "hangs ", "starving 6", "least 16", "plan 16",
        "planAt 16", "seen 1235", "seenAs 12356", "ask 12356", "waits 1", "chance 1", "stale 1", "share 167", "game 1", "moveOf 16",
        "copyWishes 123", "live 16", "lived 16", "mean 16", "mark 4", "undo 6"};
    private static final int[] WIDE = {Integer.MIN_VALUE, -1, 0, 1, 2, 3, 4, 5, 6, 7, 8, 9, 12, 13, 16, 17, 20, 21, 40, 60, 61, 99,
        100, 300, 301, 900, 901, 999, 1000, 9980, 9999, 10000, 65536, Integer.MAX_VALUE};
    private static final int[] NARROW = {Integer.MIN_VALUE, -1, 0, 1, 3, 20, Integer.MAX_VALUE};

    public static void main(String[] args) throws Exception {
        List<Supplier<LoafTable>> states = new ArrayList<>(List.of(LoafTable::new, Made::hungry, Made::bread, Made::seven,
            Made::marked, Made::bare, Made::lastDay, Made::deserted, Made::famine, LooksTest::wordy));
        for (Supplier<LoafTable> made : states.subList(1, states.size())) {
            looking(made);
        }
        telling();
        int calls = 0;
        for (String listed : LISTED) {
            String[] parts = (listed + ".").split(" ");
            Set<Integer> had = new TreeSet<>();
            for (Supplier<LoafTable> made : states) {
                wild(methodOf(parts[0]), parts[1], made, had);
            }
            for (int i = 0; i < parts[1].length() - 1; i++) {
                int status = parts[1].charAt(i) - '0';
                CHECK.due(parts[0] + " has STATUS " + status, had.contains(status), true);
            }
            CHECK.due(parts[0] + " has STATUS 0", had.contains(0), true);
            calls++;
        }
        CHECK.due("calls that have a STATUS: 49 less the five that have none", calls, 44);
        CHECK.end();
    }

    private static LoafTable wordy() {
        LoafTable x = Made.hungry();
        x.table(0);
        Check.feed(x, " ".repeat(320));
        return x;
    }

    private static void looks(String what, Supplier<LoafTable> made, boolean fraction, ToLongFunction<LoafTable> call) {
        LoafTable asked = made.get();
        call.applyAsLong(asked);
        if (asked.status() == 0) {
            Twin.looks(CHECK, what, made, fraction, call);
        }
    }

    private static void looking(Supplier<LoafTable> made) {
        looks("read", made, false, x -> x.read(0, 0));
        looks("told", made, false, x -> x.told(10));
        looks("guest", made, false, x -> x.guest(0, 7));
        looks("cutter", made, false, LoafTable::cutter);
        looks("wanted", made, false, LoafTable::wanted);
        looks("thereIn", made, false, x -> x.thereIn(99));
        looks("slicesIn", made, false, x -> x.slicesIn(99));
        looks("guestIn", made, false, x -> x.guestIn(1, 99, 0));
        looks("next", made, false, LoafTable::next);
        looks("nextBy", made, false, LoafTable::nextBy);
        looks("hangs", made, false, LoafTable::hangs);
        looks("starving", made, false, LoafTable::starving);
        looks("least", made, false, x -> x.least(20));
        looks("plan", made, false, x -> x.plan(3));
        looks("planAt", made, false, x -> x.planAt(3, 2));
        looks("seen", made, false, x -> x.seen(0, 3, 0));
        looks("seenAs", made, false, x -> x.seenAs(1, 3, 0, 1));
        looks("ask", made, false, x -> x.ask(1, 3, 0));
        looks("waits", made, true, x -> x.waits(0, 1) ? 1 : 0);
        looks("chance", made, true, x -> x.chance(6, 1) ? 1 : 0);
        looks("stale", made, true, x -> x.stale(12) ? 1 : 0);
        looks("share", made, true, x -> x.share(1) ? 1 : 0);
        looks("game", made, false, x -> x.game(0, 1, 3));
        looks("moveOf", made, false, x -> x.moveOf(1, 0, 3));
        looks("lived", made, false, x -> x.lived(4));
        looks("mean", made, true, x -> x.mean(9980, 20) ? 1 : 0);
    }

    /** A call with STATUS 0 has STATUS 0 whatever was ahead of it. */
    private static void telling() {
        LoafTable x = Made.hungry();
        List<ToLongFunction<LoafTable>> calls = List.of(y -> y.tray(2, 0, 1) ? 0 : 1, y -> y.write(2, 0, 1) ? 0 : 1, y -> y.read(2, 0),
            y -> y.pour(2, 0, 2, 0, 1) ? 0 : 1, y -> y.table(0), y -> y.weeks(0), y -> y.told(0), y -> y.sit(9, 9, 9, 0),
            y -> y.sit(9, 9, 9, 0), y -> y.butter(0, 1), y -> y.guest(0, 6), y -> y.cutter(), y -> y.wanted(), y -> y.thereIn(1),
            y -> y.slicesIn(1), y -> y.guestIn(0, 1, 0), y -> y.next(), y -> y.nextBy(), y -> y.hangs(), y -> y.least(1),
            y -> y.plan(1), y -> y.planAt(1, 0), y -> y.seen(0, 3, 0), y -> y.seenAs(0, 3, 0, 0), y -> y.ask(0, 3, 0),
            y -> y.waits(0, 1) ? 0 : 1, y -> y.chance(1, 1) ? 0 : 1, y -> y.stale(1) ? 0 : 1, y -> y.share(1) ? 0 : 1,
            y -> y.game(0, 1, 1), y -> y.moveOf(0, 1, 1), y -> y.copyWishes(3), y -> y.live(0), y -> y.lived(0),
            y -> y.mean(0, 1) ? 0 : 1, y -> y.mark(), y -> y.undo(), y -> y.bake(1), y -> y.rule(2, 20) ? 0 : 1, y -> y.day(3),
            y -> y.soup(0), y -> y.sway(0, 1), y -> y.cut(0), y -> y.come(0), y -> y.starving());
        for (int i = 0; i < calls.size(); i++) {
            x.told(-1);
            CHECK.due("STATUS ahead of it", x.status(), 1);
            calls.get(i).applyAsLong(x);
            CHECK.due("STATUS of call " + i, x.status(), 0);
        }
    }

    private static Method methodOf(String name) {
        for (Method m : LoafTable.class.getDeclaredMethods()) {
            if (m.getName().equals(name) && java.lang.reflect.Modifier.isPublic(m.getModifiers())) {
                return m;
            }
        }
        throw new IllegalStateException(name);
    }

    /** Every row of numbers out of WIDE (of NARROW, for more than two), on objects that are made anew in time. */
    private static void wild(Method m, String listed, Supplier<LoafTable> made, Set<Integer> had) throws Exception {
        int many = m.getParameterCount();
        int[] some = many > 2 ? NARROW : WIDE;
        int rows = 1;
        for (int i = 0; i < many; i++) {
            rows *= some.length;
        }
        LoafTable x = null;
        for (int row = 0; row < rows; row++) {
            // table(), weeks() leave an empty tape to those behind them
            if (x == null || row % 50 == 0 || m.getName().equals("table") || m.getName().equals("weeks")) {
                x = made.get();
            }
            Object[] numbers = new Object[many];
            int rest = row;
            for (int i = 0; i < many; i++) {
                int number = some[rest % some.length];
                rest /= some.length;
                numbers[i] = m.getParameterTypes()[i] == long.class ? (Object) (long) number : (Object) number;
            }
            one(m, listed, x, numbers, had);
        }
    }

    private static void one(Method m, String listed, LoafTable x, Object[] numbers, Set<Integer> had) throws Exception {
        String what = m.getName() + java.util.Arrays.toString(numbers);
        Object answer;
        try {
            answer = m.invoke(x, numbers);
        } catch (InvocationTargetException thrown) {
            CHECK.due(what + " threw " + thrown.getCause(), 1, 0);
            return;
        }
        int status = x.status();
        had.add(status);
        if (status != 0) {
            CHECK.due(what + " has STATUS " + status, listed.indexOf('0' + status) >= 0, true);
            boolean none = answer instanceof Boolean ? !(Boolean) answer : ((Number) answer).longValue() == LoafTable.NONE;
            CHECK.due(what + " is NONE or false with STATUS " + status, none, true);
        } else if (answer instanceof Boolean) {
            CHECK.due(what + " is true with STATUS 0", (Boolean) answer, true);
        } else if (!m.getName().equals("read") && !m.getName().equals("game")) {
            CHECK.due(what + " is 0 and more with STATUS 0: " + answer, ((Number) answer).longValue() >= 0, true);
        }
    }
}
