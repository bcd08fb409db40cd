/** Promises 36 to 38: wishes told from how many are SEEN, which day to ask. */
public final class SeenTest {
    public static void main(String[] args) {
        Check check = new Check("SeenTest");
        alone(check);
        faults(check);
        together(check);
        asks(check);
        check.end();
    }

    /** Alone, he is GONE behind d DAYS if his WISH and d - 1 are RESOLVE and more together. */
    private static void alone(Check check) {
        LoafTable x = Check.laid("guest a wish 0 bears 20 dear 0;");
        x.tray(0, 1, 40);
        check.due("all couples", x.seen(0, 0, 0), 90);
        check.due("the first", x.seenAs(0, 0, 0, 0) * 10 + x.seenAs(0, 0, 0, 1), 10);
        check.due("a day parts them by halves", x.ask(0, 0, 0), 1);
        twos(x, 0, 1, 0);
        check.due("GONE behind a DAY", x.seen(0, 0, 1), 45);
        check.due("RESOLVE 1", x.seenAs(0, 0, 1, 0), 1);
        check.due("WISH 1", x.seenAs(0, 0, 1, 1), 1);
        check.due("they can't be parted: the least day", x.ask(0, 0, 1), 0);
        twos(x, 0, 1, 1);
        check.due("THERE behind a DAY", x.seen(0, 0, 1), 45);
        check.due("RESOLVE 1", x.seenAs(0, 0, 1, 0), 1);
        check.due("WISH 0", x.seenAs(0, 0, 1, 1), 0);
        check.due("24 and 21 by the fourth day", x.ask(0, 0, 1), 4);
        twos(x, 0, 9, 1, 10, 0);
        check.due("RESOLVE 9, WISH 0 alone", x.seen(0, 0, 2), 1);
        check.due("RESOLVE", x.seenAs(0, 0, 2, 0), 9);
        check.due("WISH", x.seenAs(0, 0, 2, 1), 0);
        check.none("one can't be parted", x, x.ask(0, 0, 2), 6);
        twos(x, 0, 9, 1, 9, 0);
        check.due("one day, two numbers", x.seen(0, 0, 2), 0);
        check.none("none", x, x.seenAs(0, 0, 2, 0), 6);
        check.none("none", x, x.ask(0, 0, 2), 6);
        twos(x, 0, 9, 1, 9, 1);
        check.due("told twice", x.seen(0, 0, 2), 1);
        twos(x, 0, 20, 0);
        check.due("all are GONE then", x.seen(0, 0, 1), 90);
        check.due("his WISH stays", x.guest(0, 0), 0);
        check.due("RESOLVE stays", x.told(2), 5);
        check.due("he is THERE", x.told(8), 1);
        x.cut(0);
        twos(x, 0, 0, 0);
        check.due("of one who is GONE", x.seen(0, 0, 1), 90);
    }

    private static void asks(Check check) {
        LoafTable x = Check.laid("slices 19;guest a wish 0 bears 20 dear 0;");
        x.tray(0, 0, 4);
        check.due("bread to the last day but one", x.ask(0, 0, 0), 20);
        check.due("once more", x.ask(0, 0, 0), 20);
        LoafTable y = new LoafTable();
        Check.table(y, "loaf 60;slices 56;");
        for (int i = 0; i < 7; i++) {
            y.sit(0, 20, 0, 0);
        }
        y.tray(0, 0, 4);
        check.due("seven or six are THERE, by halves, on the ninth day first", y.ask(0, 0, 0), 9);
        check.due("once more", y.ask(0, 0, 0), 9);
        LoafTable z = Check.laid("guest a wish 0 bears 20 dear 0;");
        z.tray(0, 0, 4);
        twos(z, 0, 8, 1, 9, 0);
        check.due("RESOLVE 8, WISH 0 and RESOLVE 9, WISH 1", z.seen(0, 0, 2), 2);
        check.due("two can be asked about", z.ask(0, 0, 2), 0);
        check.due("STATUS", z.status(), 0);
    }

    private static void twos(LoafTable x, int tray, int... numbers) {
        for (int i = 0; i < numbers.length; i++) {
            x.write(tray, i, numbers[i]);
        }
    }

    private static void faults(Check check) {
        LoafTable x = Check.laid("guest a wish 0 bears 20 dear 0;");
        x.tray(0, 0, 3);
        x.tray(1, 0, 40);
        fails(check, x, 1, 0, 1, 1);
        fails(check, x, -1, 0, 1, 1);
        fails(check, x, 0, 4, 1, 1);
        fails(check, x, 0, -1, 1, 1);
        fails(check, x, 0, 0, -1, 1);
        fails(check, x, 0, 0, 21, 1);
        fails(check, x, 0, 2, 20, 2);
        fails(check, x, 0, 2, 0, 2);
        fails(check, x, 0, 0, 2, 3);
        check.none("what 2", x, x.seenAs(0, 2, 9, 2), 1);
        check.none("what -1", x, x.seenAs(0, 0, 0, -1), 1);
        long[][] wrong = {{21, 0}, {-1, 0}, {0, 8}, {0, -1}};
        for (long[] w : wrong) {
            x.write(0, 0, w[0]);
            x.write(0, 1, w[1]);
            fails(check, x, 0, 0, 1, 5);
            check.due("those behind are not looked at", x.seen(0, 0, 0), 90);
        }
        x.write(1, 39, 8);
        fails(check, x, 0, 1, 20, 5);
        x.write(1, 39, 7);
        check.due("20 of them, seven of one", x.seen(0, 1, 20), 0);
        for (int i = 1; i < 40; i += 2) {
            x.write(1, i, 1);
        }
        check.due("20 of them", x.seen(0, 1, 20), 90);
        x.tray(3, 3, 2);
        x.write(3, 0, 1L << 32);
        fails(check, x, 0, 3, 1, 5);
    }

    private static void fails(Check check, LoafTable x, int guest, int tray, int n, int status) {
        String what = "(" + guest + ", " + tray + ", " + n + ")";
        check.none("seen" + what, x, x.seen(guest, tray, n), status);
        check.none("seenAs" + what, x, x.seenAs(guest, tray, n, 0), status);
        check.none("ask" + what, x, x.ask(guest, tray, n), status);
    }

    /** b goes by RESOLVE alone; RESOLVE is of all. */
    private static void together(Check check) {
        LoafTable x = Check.laid("loaf 60;guest a wish 0 bears 20 dear 0;guest b wish 4 bears 20 dear 0;");
        x.tray(0, 2, 2);
        x.write(0, 0, 1);
        x.write(0, 1, 1);
        // RESOLVE to 4: b or a goes, 40 couples; from 5 on a goes by a WISH of RESOLVE and more: 5, 4, 3, 2, 1
        check.due("one goes on the first day", x.seen(0, 0, 1), 55);
        x.write(0, 1, 2);
        check.due("nobody does", x.seen(0, 0, 1), 35);
        check.due("RESOLVE", x.seenAs(0, 0, 1, 0), 5);
        check.due("WISH", x.seenAs(0, 0, 1, 1), 0);
        x.write(0, 1, 0);
        check.due("both do", x.seen(0, 0, 1), 0);
    }
}
