/** Promises 9 to 12: the tape, TABLES, WEEKS, FAULTS. */
public final class TextTest {
    private static final String P = "guest p wish 1 bears 2 dear 3;";
    private static final String Q = "guest q wish 4 bears 5 dear 6 stays;";

    public static void main(String[] args) {
        Check check = new Check("TextTest");
        tape(check);
        tables(check);
        tableFaults(check);
        tableRanges(check);
        weeks(check);
        weeksFaults(check);
        faultsTold(check);
        check.end();
    }

    private static void tape(Check check) {
        LoafTable x = new LoafTable();
        for (int i = 1; i <= 45; i++) {
            check.due("feed " + i, x.feed(0x20202020, 0x20202020, 0x20202020, 0x20202020, 0x20202020), 20 * i);
        }
        check.due("feed beyond 900", x.feed(0, 0, 0, 0, 0), -1);
        check.none("table(901)", x, x.table(901), 1);
        check.none("table(-1)", x, x.table(-1), 1);
        check.none("weeks(301)", x, x.weeks(301), 1);
        check.due("table(900)", x.table(900), 0);
        check.none("the tape is empty then", x, x.table(1), 1);
        check.due("feed on it", x.feed(0, 0, 0, 0, 0), 20);
        check.none("weeks(21)", x, x.weeks(21), 1);
        check.none("weeks(-1)", x, x.weeks(-1), 1);
        check.due("weeks(0)", x.weeks(0), 0);
        check.due("the highest byte of each int first", x.feed(0x6f646473, 0x20393b41, 0, 0, 0), 20);
        check.due("only the first n are read", x.table(7), 0);
        check.due("told(1)", x.told(1), 9);
        Check.feed(x, "oddsx 3;");
        check.none("a WORD ends with the text", x, x.table(4), 9);
        check.due("at the end", x.fault(1), 4);
        Check.feed(x, "odds 123;");
        check.none("a NUMBER, too", x, x.table(6), 9);
        check.due("at the end", x.fault(1), 6);
        x.feed(0, 0, 0, 0, 0);
        check.none("a FAULT", x, x.table(1), 9);
        check.none("empties the tape, too", x, x.table(1), 1);
    }

    private static void tables(Check check) {
        LoafTable x = new LoafTable();
        check.due("an empty one", Check.table(x, ""), 0);
        check.due("blanks alone", Check.table(x, " \n \n"), 0);
        check.due("all parts", Check.table(x, P + "\nodds 0;resolve 20;press 6;loaf 60;slices 0060;" + Q
            + "guest\nabcdefgh wish 0020 bears 0 dear 0 end;butter p q;butter q abcdefgh;butter abcdefgh p;"), 3);
        int[] told = {3, 0, 20, 6, 60, 60, 0, 0, 7, 0, 0};
        for (int i = 0; i < told.length; i++) {
            check.due("told(" + i + ")", x.told(i), told[i]);
        }
        int[][] guests = {{1, 2, 3, 0, 0, 1, 1, 4}, {4, 5, 6, 1, 0, 1, 2, 1}, {20, 0, 0, 2, 0, 1, 0, 2}};
        for (int g = 0; g < 3; g++) {
            for (int i = 0; i < 8; i++) {
                check.due("guest(" + g + ", " + i + ")", x.guest(g, i), guests[g][i]);
            }
        }
        x.day(50);
        Check.weeks(x, "any;");
        check.due("no blanks but where words meet", Check.table(x, "odds3;guest b wish1bears2dear3;"), 1);
        int[] fresh = {1, 3, 5, 2, 8, 0, 0, 0, 1, 0, 0};
        for (int i = 0; i < fresh.length; i++) {
            check.due("told(" + i + ") of the next", x.told(i), fresh[i]);
        }
        check.none("no WEEKS with it", x, x.live(0), 6);
        check.none("nobody gets the BUTTER", x, x.guest(0, 6), 6);
    }

    private static void tableFaults(Check check) {
        LoafTable x = Check.laid(P);
        check.faulty(x, false, "odds 3;A", 1, 7);
        check.faulty(x, false, "odds 3;\t", 1, 7);
        check.faulty(x, false, "odds 3;\u00e9", 1, 7);
        check.faulty(x, false, "odds 3;\0", 1, 7);
        check.faulty(x, false, "odds 00003;", 1, 5);
        check.faulty(x, false, "12345", 1, 0);
        check.faulty(x, false, "odds", 2, 4);
        check.faulty(x, false, "odds  \n", 2, 7);
        check.faulty(x, false, "odds 3", 2, 6);
        check.faulty(x, false, "odds odds 3;", 2, 5);
        check.faulty(x, false, "odds ;", 2, 5);
        check.faulty(x, false, ";", 2, 0);
        check.faulty(x, false, "p", 2, 0);
        check.faulty(x, false, "wish 3;", 2, 0);
        check.faulty(x, false, "oddss 3;", 2, 0);
        check.faulty(x, false, "abcdefghijklmnopqrstuvwxyz", 2, 0);
        check.faulty(x, false, "3", 2, 0);
        check.faulty(x, false, "odds 3 4;", 2, 7);
        check.faulty(x, false, "odds 3;;", 2, 7);
        check.faulty(x, false, "guest 3 wish", 2, 6);
        check.faulty(x, false, "guest abcdefghi wish", 2, 6);
        for (String word : Model.KEYWORDS) {
            check.faulty(x, false, "guest " + word + " wish 1 bears 1 dear 1;", 2, 6);
        }
        check.faulty(x, false, "guest p bears 1", 2, 8);
        check.faulty(x, false, "guest p wish 1 dear 1", 2, 15);
        check.faulty(x, false, "guest p wish 1 bears 1;", 2, 22);
        check.faulty(x, false, "guest p wish 1 bears 1 dear 1 stays end;", 2, 36);
        check.faulty(x, false, P + "guest p", 3, 36);
        check.faulty(x, false, P + "butter q p;" + Q, 3, 37);
        check.faulty(x, false, P + "butter p q;" + Q, 3, 39);
        check.faulty(x, false, P + "butter p p;", 5, 39);
        check.faulty(x, false, P + Q + "butter p q;butter p", 5, 84);
        check.faulty(x, false, P + Q + "butter p q;butter p p;", 5, 84);
        check.faulty(x, false, P + Q + "butter p ;", 2, 75);
        check.faulty(x, false, P + Q + "butter abcdefghi q;", 2, 73);
        String[] settings = {"odds", "resolve", "press", "loaf", "slices"};
        for (String word : settings) {
            check.faulty(x, false, word + " 3;loaf 61", word.equals("loaf") ? 5 : 4, word.length() + (word.equals("loaf") ? 3 : 8));
            check.faulty(x, false, word + " 3;" + P + word, 5, word.length() + 33);
        }
        StringBuilder many = new StringBuilder();
        for (int i = 0; i < 7; i++) {
            many.append("guest ").append((char) ('a' + i)).append(" wish 1 bears 1 dear 1;");
        }
        check.faulty(x, false, many + "guest", 6, 210);
        check.due("seven are fine", Check.table(x, many.toString()), 7);
        check.faulty(x, false, "odds 3;A", 1, 7);
        check.due("the old one stays", x.told(0), 7);
        check.due("and its ODDS", x.told(1), 4);
    }

    private static void tableRanges(Check check) {
        LoafTable x = new LoafTable();
        String[] words = {"odds", "resolve", "press", "loaf", "slices"};
        int[] low = {0, 1, 1, 1, 0};
        int[] high = {16, 20, 6, 60, 60};
        for (int i = 0; i < 5; i++) {
            int place = words[i].length() + 1;
            check.due(words[i] + " least", Check.table(x, words[i] + " " + low[i] + ";"), 0);
            check.due("told", x.told(i + 1), low[i]);
            check.due(words[i] + " most", Check.table(x, words[i] + " " + high[i] + ";"), 0);
            check.due("told", x.told(i + 1), high[i]);
            check.faulty(x, false, words[i] + " " + (high[i] + 1) + ";", 4, place);
            check.faulty(x, false, words[i] + " 9999;", 4, place);
            if (low[i] > 0) {
                check.faulty(x, false, words[i] + " 0;", 4, place);
            }
        }
        check.due("the most of a guest", Check.table(x, "guest a wish 20 bears 20 dear 20;"), 1);
        check.faulty(x, false, "guest a wish 21 bears 20 dear 20;", 4, 13);
        check.faulty(x, false, "guest a wish 20 bears 21 dear 20;", 4, 22);
        check.faulty(x, false, "guest a wish 20 bears 20 dear 21;", 4, 30);
    }

    private static void weeks(Check check) {
        LoafTable x = Check.laid(P + Q);
        check.due("all steps", Check.weeks(x, "day 20;cut p;butter p q;soup q;bake 60;any;when there p;end;"
            + "when hungry q;when bread<0;when bread > 60;stop;end;end;end;when wish p=20;end;loop 99;end;stop;"), 14);
        check.due("fault(0)", x.fault(0), 0);
        check.due("fault(1)", x.fault(1), -1);
        StringBuilder thirty = new StringBuilder("loop 2;when there p;");
        for (int i = 0; i < 28; i++) {
            thirty.append("any;");
        }
        check.due("30 of them, ends are none", Check.weeks(x, thirty + "end;end;"), 30);
        check.faulty(x, true, thirty + "end;any;end;", 6, 136);
        check.faulty(x, true, thirty + "loop 2;end;end;", 6, 132);
        check.due("300 bytes", Check.weeks(x, "any;" + " ".repeat(296)), 1);
        Check.feed(x, "any;" + " ".repeat(316));
        check.none("301 bytes", x, x.weeks(301), 1);
        check.due("the tape stays then", x.weeks(300), 1);
    }

    private static void weeksFaults(Check check) {
        LoafTable x = Check.laid(P + Q);
        check.due("some WEEKS", Check.weeks(x, "any;any;"), 2);
        check.faulty(x, true, "any;!", 1, 4);
        check.faulty(x, true, "day 00001;", 1, 4);
        check.faulty(x, true, "day", 2, 3);
        check.faulty(x, true, "day p;", 2, 4);
        check.faulty(x, true, "day 1", 2, 5);
        check.faulty(x, true, "any 1;", 2, 4);
        check.faulty(x, true, "p;", 2, 0);
        check.faulty(x, true, "guest p", 2, 0);
        check.faulty(x, true, "there p;", 2, 0);
        check.faulty(x, true, "end;", 2, 0);
        check.faulty(x, true, "loop 2;end;end;", 2, 11);
        check.faulty(x, true, "loop 2;any;", 2, 11);
        check.faulty(x, true, "loop 2;any; \n", 2, 13);
        check.faulty(x, true, "loop 2;any;end", 2, 14);
        check.faulty(x, true, "loop 2;any;end any;", 2, 15);
        check.faulty(x, true, "when p;", 2, 5);
        check.faulty(x, true, "when bread 3;", 2, 11);
        check.faulty(x, true, "when bread ; 3;", 2, 11);
        check.faulty(x, true, "when wish p 3;", 2, 12);
        check.faulty(x, true, "when there p > 3;", 2, 13);
        check.faulty(x, true, "when bread < p;", 2, 13);
        check.faulty(x, true, "cut abcdefghi;", 2, 4);
        check.faulty(x, true, "cut day;", 2, 4);
        check.faulty(x, true, "cut r;", 3, 4);
        check.faulty(x, true, "soup r;", 3, 5);
        check.faulty(x, true, "butter r p;", 3, 7);
        check.faulty(x, true, "butter p r;", 3, 9);
        check.faulty(x, true, "when hungry r;", 3, 12);
        check.faulty(x, true, "when wish r = 0;", 3, 10);
        check.faulty(x, true, "day 0;", 4, 4);
        check.faulty(x, true, "day 21;", 4, 4);
        check.faulty(x, true, "bake 0;", 4, 5);
        check.faulty(x, true, "bake 61;", 4, 5);
        check.faulty(x, true, "loop 0;end;", 4, 5);
        check.faulty(x, true, "loop 100;end;", 4, 5);
        check.faulty(x, true, "when bread = 61;", 4, 13);
        check.faulty(x, true, "when wish p = 21;", 4, 14);
        check.faulty(x, true, "butter p p;", 5, 9);
        check.faulty(x, true, "loop 1;when there p;loop 1;loop 1;", 7, 27);
        check.faulty(x, true, "loop 1;when there p;loop 1;end;loop 1;when there q;", 7, 38);
        check.due("three within one another", Check.weeks(x, "loop 1;loop 1;loop 1;any;end;end;end;"), 4);
        check.faulty(x, true, "loop 1;loop 1;loop 1;" + "any;".repeat(27) + "when", 6, 129);
        check.due("the old ones stay", x.live(0), 4);
        x.sit(0, 0, 0, 0);
        check.faulty(x, true, "cut ;", 2, 4);
    }

    private static void faultsTold(Check check) {
        LoafTable x = new LoafTable();
        x.table(5);
        check.due("fault(0) behind STATUS 1", x.fault(0), -1);
        check.faulty(x, false, "odds 99;", 4, 5);
        x.weeks(5);
        x.told(77);
        check.due("fault(0) stays", x.fault(0), 4);
        check.due("fault(1) stays", x.fault(1), 5);
        check.due("fault(2)", x.fault(2), -1);
        check.due("fault(-1)", x.fault(-1), -1);
        x.weeks(0);
        check.due("fault(0) behind good ones", x.fault(0), 0);
        check.due("fault(1) behind good ones", x.fault(1), -1);
    }
}
