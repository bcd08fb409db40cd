/** Terms 1 (TRAYS), promises 5 to 8 and 45: a check for each edge that they name; what is refused is in RefusedTest. */
public final class TrayEdgeTest {
    private static final Check CHECK = new Check("TrayEdgeTest");

    public static void main(String[] args) {
        missingAtFirst();
        leastAndMost();
        laidAgain();
        cutToItsSort();
        noneFromMinusOne();
        pouredToTheLastPlace();
        pouredOnItself();
        pouredNothing();
        wishesToTheLastPlace();
        CHECK.end();
    }

    /** "TRAYS 0 to 3 are MISSING at first". */
    private static void missingAtFirst() {
        LoafTable x = new LoafTable();
        for (int tray = 0; tray <= 3; tray++) {
            CHECK.none("read of TRAY " + tray + " at first", x, x.read(tray, 0), 2);
            CHECK.not("write to TRAY " + tray + " at first", x, x.write(tray, 0, 1), 2);
            CHECK.none("copyWishes to TRAY " + tray + " at first", x, x.copyWishes(tray), 2);
        }
        x.tray(0, 0, 1);
        for (int tray = 1; tray <= 3; tray++) {
            CHECK.none("one laid does not lay TRAY " + tray, x, x.read(tray, 0), 2);
        }
    }

    /** "rows of 0 to 60 numbers", TRAYS 0 to 3, sorts 0 to 3. */
    private static void leastAndMost() {
        LoafTable x = new LoafTable();
        for (int tray = 0; tray <= 3; tray++) {
            for (int sort = 0; sort <= 3; sort++) {
                CHECK.due("tray(" + tray + ", " + sort + ", 0)", x.tray(tray, sort, 0), true);
                CHECK.due("its status", x.status(), 0);
                CHECK.none("it has no place 0", x, x.read(tray, 0), 3);
                CHECK.due("tray(" + tray + ", " + sort + ", 60)", x.tray(tray, sort, 60), true);
                CHECK.due("its status", x.status(), 0);
                CHECK.due("write to place 59", x.write(tray, 59, 7), true);
                CHECK.due("read of place 59", x.read(tray, 59), 7);
                CHECK.none("it has no place 60", x, x.read(tray, 60), 3);
            }
        }
        for (int many = 1; many <= 60; many++) {
            x.tray(1, 2, many);
            CHECK.due("the last of " + many, x.write(1, many - 1, many), true);
            CHECK.due("read", x.read(1, many - 1), many);
            CHECK.not("none behind it", x, x.write(1, many, 1), 3);
        }
    }

    /** "A TRAY is a row of so many 0s", with the new sort alone; a refused call leaves the old one. */
    private static void laidAgain() {
        LoafTable x = new LoafTable();
        x.tray(0, 3, 60);
        for (int i = 0; i < 60; i++) {
            x.write(0, i, 5000 + i);
        }
        x.tray(0, 0, 30);
        for (int i = 0; i < 30; i++) {
            CHECK.due("place " + i + " is 0", x.read(0, i), 0);
        }
        CHECK.none("shorter now", x, x.read(0, 30), 3);
        x.write(0, 0, 300);
        CHECK.due("8 bits now", x.read(0, 0), 44);
        CHECK.not("tray(0, 3, 61)", x, x.tray(0, 3, 61), 1);
        x.write(0, 1, 300);
        CHECK.due("8 bits still", x.read(0, 1), 44);
        CHECK.due("as it was", x.read(0, 0), 44);
        x.tray(0, 1, 60);
        for (int i = 0; i < 60; i++) {
            CHECK.due("longer again, place " + i + " is 0", x.read(0, i), 0);
        }
    }

    /** "A number comes to a place of a TRAY, cut to its sort": 8, 16, 32, 64 bits. */
    private static void cutToItsSort() {
        long[][] cut = {
            {0, 127, 127}, {0, 128, -128}, {0, 255, -1}, {0, 256, 0}, {0, -128, -128}, {0, -129, 127}, {0, 1L << 40, 0},
            {0, Long.MAX_VALUE, -1}, {0, Long.MIN_VALUE, 0},
            {1, 32767, 32767}, {1, 32768, -32768}, {1, 65535, -1}, {1, 65536, 0}, {1, -32768, -32768}, {1, -32769, 32767},
            {1, Long.MAX_VALUE, -1}, {1, Long.MIN_VALUE, 0},
            {2, 2147483647L, 2147483647L}, {2, 2147483648L, -2147483648L}, {2, 4294967295L, -1}, {2, 4294967296L, 0},
            {2, -2147483648L, -2147483648L}, {2, -2147483649L, 2147483647L}, {2, Long.MAX_VALUE, -1}, {2, Long.MIN_VALUE, 0},
            {3, Long.MAX_VALUE, Long.MAX_VALUE}, {3, Long.MIN_VALUE, Long.MIN_VALUE}, {3, 4294967296L, 4294967296L}, {3, -1, -1}};
        LoafTable x = new LoafTable();
        for (int sort = 0; sort <= 3; sort++) {
            x.tray(sort, sort, 3);
        }
        for (long[] c : cut) {
            int tray = (int) c[0];
            CHECK.due("write(" + tray + ", 1, " + c[1] + ")", x.write(tray, 1, c[1]), true);
            CHECK.due("read of " + c[1] + " by sort " + tray, x.read(tray, 1), c[2]);
            CHECK.due("the place ahead", x.read(tray, 0), 0);
            CHECK.due("the place behind", x.read(tray, 2), 0);
        }
    }

    /** "STATUS tells NONE from -1". */
    private static void noneFromMinusOne() {
        LoafTable x = new LoafTable();
        for (int sort = 0; sort <= 3; sort++) {
            x.tray(0, sort, 1);
            x.write(0, 0, -1);
            CHECK.none("a place that is not there", x, x.read(0, 1), 3);
            CHECK.due("-1", x.read(0, 0), -1);
            CHECK.due("STATUS of -1", x.status(), 0);
        }
    }

    private static LoafTable rows() {
        LoafTable x = new LoafTable();
        x.tray(0, 1, 5);
        x.tray(1, 1, 3);
        for (int i = 0; i < 5; i++) {
            x.write(0, i, -i - 1);
        }
        return x;
    }

    private static void row(String what, LoafTable x, int tray, long... want) {
        for (int i = 0; i < want.length; i++) {
            CHECK.due(what + ": place " + i, x.read(tray, i), want[i]);
        }
        CHECK.none(what + ": no more places", x, x.read(tray, want.length), 3);
    }

    /** "So many numbers of a TRAY, from a place on, come to another one's place on, as they were". */
    private static void pouredToTheLastPlace() {
        LoafTable x = rows();
        CHECK.due("all that the other one has", x.pour(0, 0, 1, 0, 3), true);
        CHECK.due("STATUS", x.status(), 0);
        row("all", x, 1, -1, -2, -3);
        CHECK.due("the last ones", x.pour(0, 2, 1, 0, 3), true);
        row("the last", x, 1, -3, -4, -5);
        CHECK.due("the last to the last", x.pour(0, 4, 1, 2, 1), true);
        row("to the last", x, 1, -3, -4, -5);
        CHECK.due("the first to the last", x.pour(0, 0, 1, 2, 1), true);
        row("the first", x, 1, -3, -4, -1);
        row("the one that is poured from stays", x, 0, -1, -2, -3, -4, -5);
        CHECK.due("from the shorter one to the longer one's last places", x.pour(1, 0, 0, 2, 3), true);
        row("the longer one", x, 0, -1, -2, -3, -4, -1);
        for (int sort = 0; sort <= 3; sort++) {
            x.tray(2, sort, 60);
            x.tray(3, sort, 60);
            x.write(2, 59, Long.MIN_VALUE + 100);
            CHECK.due("60 numbers", x.pour(2, 0, 3, 0, 60), true);
            CHECK.due("the last of them by sort " + sort, x.read(3, 59), sort == 3 ? Long.MIN_VALUE + 100 : 100);
        }
    }

    /** "(or its own)": as they were ahead of it, by places that overlap. */
    private static void pouredOnItself() {
        LoafTable x = rows();
        CHECK.due("up by one", x.pour(0, 0, 0, 1, 4), true);
        row("up", x, 0, -1, -1, -2, -3, -4);
        LoafTable y = rows();
        CHECK.due("down by one", y.pour(0, 1, 0, 0, 4), true);
        row("down", y, 0, -2, -3, -4, -5, -5);
        LoafTable z = rows();
        CHECK.due("on the same places", z.pour(0, 0, 0, 0, 5), true);
        row("the same", z, 0, -1, -2, -3, -4, -5);
    }

    /** 0 numbers are so many, too; the place just behind the last one is no place too high for none. */
    private static void pouredNothing() {
        LoafTable x = rows();
        CHECK.due("from the first", x.pour(0, 0, 1, 0, 0), true);
        CHECK.due("from behind the last", x.pour(0, 5, 1, 3, 0), true);
        CHECK.due("STATUS", x.status(), 0);
        row("nothing came", x, 1, 0, 0, 0);
        x.tray(2, 1, 0);
        CHECK.due("to one without places", x.pour(0, 0, 2, 0, 0), true);
        CHECK.not("one number to it", x, x.pour(0, 0, 2, 0, 1), 3);
        CHECK.not("one number from it", x, x.pour(2, 0, 0, 0, 1), 3);
    }

    /** "WISHES of all GUESTS come to a TRAY, one by one: how many GUESTS". */
    private static void wishesToTheLastPlace() {
        LoafTable x = new LoafTable();
        x.tray(0, 0, 0);
        CHECK.due("of no GUESTS to no places", x.copyWishes(0), 0);
        CHECK.due("STATUS", x.status(), 0);
        x.sit(20, 0, 0, 0);
        CHECK.none("one GUEST to no places", x, x.copyWishes(0), 3);
        for (int i = 1; i < 7; i++) {
            x.sit(20 - i, 0, 0, 0);
        }
        for (int sort = 0; sort <= 3; sort++) {
            x.tray(1, sort, 6);
            CHECK.none("seven to six places", x, x.copyWishes(1), 3);
            row("none of them came", x, 1, 0, 0, 0, 0, 0, 0);
            x.tray(1, sort, 7);
            CHECK.due("seven to seven places", x.copyWishes(1), 7);
            row("all came", x, 1, 20, 19, 18, 17, 16, 15, 14);
        }
        x.tray(2, 2, 8);
        x.write(2, 7, 99);
        CHECK.due("to eight places", x.copyWishes(2), 7);
        row("the eighth stays", x, 2, 20, 19, 18, 17, 16, 15, 14, 99);
        x.cut(3);
        x.tray(3, 1, 7);
        CHECK.due("of all GUESTS, those GONE, too", x.copyWishes(3), 7);
        row("with one GONE", x, 3, 20, 19, 18, 17, 16, 15, 14);
    }
}
