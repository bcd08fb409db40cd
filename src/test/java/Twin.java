import java.util.ArrayList;
import java.util.List;
import java.util.function.Predicate;
import java.util.function.Supplier;
import java.util.function.ToLongFunction;

/**
 * A refused call changes nothing: of two objects made alike one is asked the call, the other is not; then both
 * tell all that they have, and must tell the same. Telling uses them up.
 */
final class Twin {
    private Twin() {
    }

    static void none(Check check, String what, Supplier<LoafTable> made, int status, ToLongFunction<LoafTable> call) {
        LoafTable asked = made.get();
        check.none(what, asked, call.applyAsLong(asked), status);
        same(check, what, asked, made.get());
    }

    static void not(Check check, String what, Supplier<LoafTable> made, int status, Predicate<LoafTable> call) {
        LoafTable asked = made.get();
        check.not(what, asked, call.test(asked), status);
        same(check, what, asked, made.get());
    }

    /** A call that answers and only looks: nothing changes by it, but for the FRACTION, if it tells one. */
    static void looks(Check check, String what, Supplier<LoafTable> made, boolean fraction, ToLongFunction<LoafTable> call) {
        LoafTable asked = made.get();
        call.applyAsLong(asked);
        check.due(what + ": status", asked.status(), 0);
        List<Long> got = all(asked);
        List<Long> want = all(made.get());
        for (int i = fraction ? 2 : 0; i < want.size(); i++) {
            check.due(what + " changes nothing, what is told " + i, i < got.size() ? got.get(i) : Long.MIN_VALUE, want.get(i));
        }
        check.due(what + " changes nothing, how much is told", got.size(), want.size());
    }

    static void same(Check check, String what, LoafTable one, LoafTable other) {
        List<Long> got = all(one);
        List<Long> want = all(other);
        check.due(what + " changes nothing: " + firstUnlike(got, want), got.equals(want), true);
    }

    private static String firstUnlike(List<Long> got, List<Long> want) {
        for (int i = 0; i < got.size() && i < want.size(); i++) {
            if (!got.get(i).equals(want.get(i))) {
                return "told at " + i + " is " + got.get(i) + ", due is " + want.get(i);
            }
        }
        return got.size() + " told, due are " + want.size();
    }

    /** The FRACTION first, then FAULT, TRAYS, LIVED, TABLE, WEEKS, the tape's length, all MARKS, the tape's bytes. */
    static List<Long> all(LoafTable x) {
        List<Long> told = new ArrayList<>();
        told.add(x.top());
        told.add(x.bottom());
        told.add((long) x.fault(0));
        told.add((long) x.fault(1));
        for (int tray = 0; tray < 4; tray++) {
            trayOf(x, tray, told);
        }
        for (int what = 0; what <= 4; what++) {
            told.add((long) x.lived(what));
            told.add((long) x.status());
        }
        tableOf(x, told);
        int onTape = x.feed(0x20202020, 0x20202020, 0x20202020, 0x20202020, 0x20202020);
        told.add((long) onTape);
        for (int left = 3; left > 0; left--) {
            told.add((long) x.undo());
            told.add((long) x.status());
            if (x.status() == 0) {
                tableOf(x, told);
            }
        }
        told.add((long) x.table(Math.max(onTape, 0)));
        told.add((long) x.fault(0));
        told.add((long) x.fault(1));
        tableOf(x, told);
        return told;
    }

    private static void trayOf(LoafTable x, int tray, List<Long> told) {
        for (int place = 0; place <= 60; place++) {
            told.add(x.read(tray, place));
            if (x.status() != 0) {
                told.add((long) x.status());
                return;
            }
        }
    }

    private static void tableOf(LoafTable x, List<Long> told) {
        for (int what = 0; what <= 10; what++) {
            told.add((long) x.told(what));
        }
        int guests = x.told(0);
        for (int guest = 0; guest < guests; guest++) {
            for (int what = 0; what <= 7; what++) {
                told.add((long) x.guest(guest, what));
            }
        }
        boolean weeks = x.mean(5, 4);
        told.add(weeks ? 1L : 0L);
        if (weeks) {
            told.add(x.top());
            told.add(x.bottom());
        }
    }
}
