/** Promises 1 to 4: a new object, STATUS, the FRACTION. */
public final class NewTest {
    public static void main(String[] args) {
        Check check = new Check("NewTest");
        LoafTable x = new LoafTable();
        check.due("status()", x.status(), 0);
        check.due("top()", x.top(), 0);
        check.due("bottom()", x.bottom(), 1);
        check.due("fault(0)", x.fault(0), -1);
        check.due("fault(1)", x.fault(1), -1);
        int[] told = {0, 4, 5, 2, 8, 0, 0, 0, 0, 0, 0};
        for (int i = 0; i < told.length; i++) {
            check.due("told(" + i + ")", x.told(i), told[i]);
        }
        for (int i = 0; i < 4; i++) {
            check.none("read(" + i + ", 0)", x, x.read(i, 0), 2);
        }
        check.none("live(0)", x, x.live(0), 6);
        check.none("lived(0)", x, x.lived(0), 6);
        check.not("mean(0, 1)", x, x.mean(0, 1), 6);
        check.none("undo()", x, x.undo(), 6);
        check.none("table(1)", x, x.table(1), 1);
        check.due("an empty table", x.table(0), 0);
        callsWithoutStatus(check);
        check.end();
    }

    private static void callsWithoutStatus(Check check) {
        LoafTable x = new LoafTable();
        x.cutter();
        check.due("status() behind cutter()", x.status(), 6);
        x.top();
        x.bottom();
        x.feed(1, 2, 3, 4, 5);
        x.fault(0);
        x.fault(9);
        x.status();
        check.due("status() behind calls that have none", x.status(), 6);
        x.told(0);
        check.due("status() behind told(0)", x.status(), 0);
        check.fraction("chance(1, 1)", x, x.chance(1, 1), 1, 6);
        check.not("chance(7, 1)", x, x.chance(7, 1), 1);
        check.due("top() behind a call with STATUS 1", x.top(), 1);
        check.due("bottom() behind a call with STATUS 1", x.bottom(), 6);
        LoafTable y = new LoafTable();
        check.due("another object's bottom()", y.bottom(), 1);
    }
}
