/** Promises 5 to 8 and 45: TRAYS. */
public final class TrayTest {
    public static void main(String[] args) {
        Check check = new Check("TrayTest");
        trays(check);
        numbers(check);
        pours(check);
        wishes(check);
        check.end();
    }

    private static void trays(Check check) {
        LoafTable x = new LoafTable();
        check.not("tray(-1, 0, 1)", x, x.tray(-1, 0, 1), 1);
        check.not("tray(4, 0, 1)", x, x.tray(4, 0, 1), 1);
        check.not("tray(0, -1, 1)", x, x.tray(0, -1, 1), 1);
        check.not("tray(0, 4, 1)", x, x.tray(0, 4, 1), 1);
        check.not("tray(0, 0, -1)", x, x.tray(0, 0, -1), 1);
        check.not("tray(0, 0, 61)", x, x.tray(0, 0, 61), 1);
        check.none("read(0, 0)", x, x.read(0, 0), 2);
        check.due("tray(0, 3, 60)", x.tray(0, 3, 60), true);
        check.due("write(0, 59, 5)", x.write(0, 59, 5), true);
        check.due("read(0, 59)", x.read(0, 59), 5);
        check.none("read(0, 60)", x, x.read(0, 60), 3);
        check.none("read(0, -1)", x, x.read(0, -1), 3);
        check.none("read(-1, 0)", x, x.read(-1, 0), 1);
        check.none("read(4, 0)", x, x.read(4, 0), 1);
        check.due("tray(0, 3, 60) again", x.tray(0, 3, 60), true);
        check.due("read(0, 59) of a new row", x.read(0, 59), 0);
        check.due("tray(1, 0, 0)", x.tray(1, 0, 0), true);
        check.none("read(1, 0)", x, x.read(1, 0), 3);
        check.not("write(1, 0, 1)", x, x.write(1, 0, 1), 3);
        check.not("write(2, 0, 1)", x, x.write(2, 0, 1), 2);
        check.not("write(4, 0, 1)", x, x.write(4, 0, 1), 1);
        check.not("write(0, 60, 1)", x, x.write(0, 60, 1), 3);
        check.not("write(0, -1, 1)", x, x.write(0, -1, 1), 3);
        x.write(0, 0, 6);
        x.tray(0, 3, 2);
        check.due("all are 0 again", x.read(0, 0), 0);
        check.none("read(0, 2) of a shorter row", x, x.read(0, 2), 3);
        x.write(0, 1, 7);
        check.not("tray(0, 9, 9)", x, x.tray(0, 9, 9), 1);
        check.due("the row stays", x.read(0, 1), 7);
    }

    private static void numbers(Check check) {
        LoafTable x = new LoafTable();
        long[] put = {-1, 127, 128, 255, 256, 32768, 65535, 1L << 31, 1L << 32, Long.MIN_VALUE, Long.MAX_VALUE};
        for (int sort = 0; sort < 4; sort++) {
            x.tray(sort, sort, 1);
            for (long v : put) {
                long want = sort == 0 ? (byte) v : sort == 1 ? (short) v : sort == 2 ? (int) v : v;
                check.due("write(" + sort + ", 0, " + v + ")", x.write(sort, 0, v), true);
                check.due("read of " + v + " by sort " + sort, x.read(sort, 0), want);
                check.due("its status", x.status(), 0);
            }
        }
    }

    private static void pours(Check check) {
        LoafTable x = new LoafTable();
        x.tray(0, 1, 5);
        x.tray(1, 1, 3);
        x.tray(2, 2, 5);
        for (int i = 0; i < 5; i++) {
            x.write(0, i, i + 1);
        }
        check.not("pour(4, ..)", x, x.pour(4, 0, 1, 0, 1), 1);
        check.not("pour(.., -1, ..)", x, x.pour(0, 0, -1, 0, 1), 1);
        check.not("a place below 0", x, x.pour(0, -1, 3, 0, 1), 1);
        check.not("at below 0", x, x.pour(0, 0, 3, -1, 1), 1);
        check.not("many below 0", x, x.pour(0, 0, 3, 0, -1), 1);
        check.not("to one MISSING", x, x.pour(2, 9, 3, 9, 9), 2);
        check.not("from one MISSING", x, x.pour(3, 9, 2, 9, 9), 2);
        check.not("unlike sorts, ahead of places", x, x.pour(0, 9, 2, 9, 9), 8);
        check.not("too few to pour", x, x.pour(0, 3, 1, 0, 3), 3);
        check.not("too few places", x, x.pour(0, 0, 1, 1, 3), 3);
        check.not("very many", x, x.pour(0, 1, 1, 1, Integer.MAX_VALUE), 3);
        check.not("a very high place", x, x.pour(0, Integer.MAX_VALUE, 1, 0, 1), 3);
        check.due("pour(0, 2, 1, 1, 2)", x.pour(0, 2, 1, 1, 2), true);
        row(check, x, 1, 0, 3, 4);
        check.due("on itself, up", x.pour(0, 0, 0, 1, 4), true);
        row(check, x, 0, 1, 1, 2, 3, 4);
        check.due("on itself, down", x.pour(0, 2, 0, 0, 3), true);
        row(check, x, 0, 2, 3, 4, 3, 4);
        check.due("nothing", x.pour(0, 0, 1, 0, 0), true);
        row(check, x, 1, 0, 3, 4);
    }

    private static void row(Check check, LoafTable x, int tray, long... want) {
        for (int i = 0; i < want.length; i++) {
            check.due("read(" + tray + ", " + i + ")", x.read(tray, i), want[i]);
        }
    }

    private static void wishes(Check check) {
        LoafTable x = new LoafTable();
        x.sit(20, 0, 0, 0);
        x.sit(3, 0, 0, 0);
        x.tray(0, 0, 3);
        x.write(0, 2, 9);
        x.tray(1, 3, 1);
        check.none("copyWishes(-1)", x, x.copyWishes(-1), 1);
        check.none("copyWishes(4)", x, x.copyWishes(4), 1);
        check.none("copyWishes(2)", x, x.copyWishes(2), 2);
        check.none("copyWishes(1)", x, x.copyWishes(1), 3);
        check.due("nothing came", x.read(1, 0), 0);
        check.due("copyWishes(0)", x.copyWishes(0), 2);
        row(check, x, 0, 20, 3, 9);
        x.cut(0);
        check.due("of one GONE, too", x.copyWishes(0), 2);
        row(check, x, 0, 20, 3, 9);
    }
}
