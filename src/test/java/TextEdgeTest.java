import java.util.Arrays;
import java.util.regex.Matcher;
import java.util.regex.Pattern;

/**
 * Terms 1 (TOKENS, TABLE, FAULTS), promises 9, 10 and 12: a check for each edge that they name. In a text that has a
 * FAULT the sign ^ (which is taken out) stands ahead of its place.
 */
public final class TextEdgeTest {
    private static final Check CHECK = new Check("TextEdgeTest");
    private static final String P = "guest p wish 1 bears 2 dear 3;";
    private static final String Q = "guest q wish 4 bears 5 dear 6;";
    private static final String[] SETTINGS = {"odds", "resolve", "press", "loaf", "slices"};
    private static final int[] LOW = {0, 1, 1, 1, 0};
    private static final int[] HIGH = {16, 20, 6, 60, 60};
    private static final int[] WITHOUT = {4, 5, 2, 8, 0};

    public static void main(String[] args) {
        tape();
        firstBytes();
        everyByte();
        numbers();
        names();
        blanks();
        settings();
        guests();
        eighth();
        seventh();
        butter();
        cutShort();
        firstAlongTheText();
        leastKind();
        nothingOfTheTextAhead();
        taken();
        faultTold();
        CHECK.end();
    }

    private static void faulty(String marked, int fault) {
        CHECK.faulty(Check.laid(P), false, marked.replace("^", ""), fault, marked.indexOf('^'));
    }

    private static LoafTable fine(String text, int guests) {
        LoafTable x = new LoafTable();
        CHECK.due("'" + text + "'", Check.table(x, text), guests);
        CHECK.due("'" + text + "': status", x.status(), 0);
        CHECK.due("'" + text + "': fault", x.fault(0), 0);
        CHECK.due("'" + text + "': place", x.fault(1), -1);
        return x;
    }

    /** "how many it has; NONE if there would be more than 900"; an empty tape at first and behind a text. */
    private static void tape() {
        LoafTable x = new LoafTable();
        CHECK.none("an empty tape at first", x, x.table(1), 1);
        for (int i = 1; i <= 45; i++) {
            CHECK.due("feed " + i, x.feed(0x6f646473, 0x20393b20, 0x20202020, 0x20202020, 0x20200a20), 20 * i);
        }
        for (int i = 0; i < 3; i++) {
            CHECK.due("920 would be more than 900", x.feed(0x41414141, 0x41414141, 0x41414141, 0x41414141, 0x41414141), -1);
        }
        CHECK.none("901 bytes", x, x.table(901), 1);
        CHECK.none("odds told again by the 21st byte", x, x.table(900), 9);
        CHECK.due("kind", x.fault(0), 5);
        CHECK.due("place", x.fault(1), 20);
        CHECK.due("it is empty behind a FAULT", x.feed(0x6f646473, 0x20393b20, 0x20202020, 0x20202020, 0x20200a20), 20);
        CHECK.due("20 of 20 bytes", x.table(20), 0);
        CHECK.due("ODDS", x.told(1), 9);
        CHECK.due("it is empty behind a TABLE", x.feed(0, 0, 0, 0, 0), 20);
        CHECK.due("0 of 20 bytes: a TABLE of nobody", x.table(0), 0);
        CHECK.due("ODDS", x.told(1), 4);
        CHECK.none("empty behind it, too", x, x.table(1), 1);
        LoafTable full = new LoafTable();
        for (int i = 0; i < 45; i++) {
            full.feed(0x0a202020, 0x20202020, 0x20202020, 0x20202020, 0x2020200a);
        }
        CHECK.due("900 bytes", full.table(900), 0);
        for (int i = 0; i < 44; i++) {
            full.feed(0x0a202020, 0x20202020, 0x20202020, 0x20202020, 0x2020200a);
        }
        CHECK.due("880 and 20", full.feed(0, 0, 0, 0, 0), 900);
        CHECK.none("the last byte, too", full, full.table(881), 9);
        CHECK.due("its place", full.fault(1), 880);
    }

    /** "the highest byte of each int first"; "The first n bytes of the tape are the TABLE". */
    private static void firstBytes() {
        LoafTable x = new LoafTable();
        x.feed(0x6f646473, 0x3d202020, 0x20202020, 0x20202020, 0x20202020);
        CHECK.none("the fifth byte is the next int's highest", x, x.table(20), 9);
        CHECK.due("=", x.fault(0) * 100 + x.fault(1), 204);
        x.feed(0x20202020, 0x20202020, 0x20202020, 0x20202020, 0x20202080);
        CHECK.none("a byte of 128", x, x.table(20), 9);
        CHECK.due("its place", x.fault(0) * 100 + x.fault(1), 119);
        x.feed(0xff202020, 0, 0, 0, 0);
        CHECK.none("a byte of 255", x, x.table(1), 9);
        CHECK.due("its place", x.fault(0) * 100 + x.fault(1), 100);
        String text = "odds 12;press 3;  ";
        int[] fine = {0, 8, 16, 17, 18};
        for (int n = 0; n <= text.length(); n++) {
            Check.feed(x, text);
            int at = n;
            boolean good = Arrays.stream(fine).anyMatch(f -> f == at);
            CHECK.due("the first " + n + " bytes", x.table(n), good ? 0 : -1);
            if (good) {
                CHECK.due("ODDS by the first " + n, x.told(1), n >= 8 ? 12 : 4);
                CHECK.due("PRESS by the first " + n, x.told(3), n >= 16 ? 3 : 2);
            }
        }
        Check.feed(x, "odds 12;");
        CHECK.none("a NUMBER ends with the first n", x, x.table(6), 9);
        CHECK.due("at the end", x.fault(0) * 100 + x.fault(1), 206);
        Check.feed(x, "oddsodds");
        CHECK.none("a WORD ends with the first n", x, x.table(4), 9);
        CHECK.due("at the end", x.fault(0) * 100 + x.fault(1), 204);
    }

    /** Of all bytes: blanks are 10 and 32; WORDS, NUMBERS, SIGNS; "1 no TOKEN begins so". */
    private static void everyByte() {
        for (int b = 0; b < 256; b++) {
            char sign = (char) b;
            String name = "byte " + b;
            boolean blank = b == 10 || b == 32;
            boolean begins = sign >= 'a' && sign <= 'z' || sign >= '0' && sign <= '9' || ";<>=".indexOf(sign) >= 0;
            LoafTable x = new LoafTable();
            CHECK.due(name + " alone", Check.table(x, "" + sign), blank ? 0 : -1);
            CHECK.due(name + " alone: fault", x.fault(0), blank ? 0 : begins ? 2 : 1);
            CHECK.due(name + " alone: place", x.fault(1), blank ? -1 : 0);
            // behind a NUMBER of two digits: a third digit is a NUMBER that can't be, a SIGN ; ends the part
            CHECK.due(name + " behind odds 12", Check.table(x, "odds 12" + sign), b == ';' ? 0 : -1);
            boolean digit = sign >= '0' && sign <= '9';
            CHECK.due(name + " behind: fault", x.fault(0), b == ';' ? 0 : digit ? 4 : begins || blank ? 2 : 1);
            CHECK.due(name + " behind: place", x.fault(1), b == ';' ? -1 : digit ? 5 : blank ? 8 : 7);
            // within a WORD: a letter makes another one, any other sign ends it
            CHECK.due(name + " within odds", Check.table(x, "od" + sign + "ds 3;"), -1);
            boolean stands = sign >= 'a' && sign <= 'z';
            CHECK.due(name + " within: fault", x.fault(0), 2);
            CHECK.due(name + " within: place", x.fault(1), 0);
            // within a NAME's WORD, where a NAME stands
            Check.table(x, "guest a" + sign + " wish 1 bears 1 dear 1;");
            CHECK.due(name + " behind a NAME: fault", x.fault(0), stands || blank ? 0 : begins ? 2 : 1);
            CHECK.due(name + " behind a NAME: place", x.fault(1), stands || blank ? -1 : 7);
        }
    }

    /** "NUMBERS (1 to 4 digits)"; "a NUMBER of 5 digits and more: at its first". */
    private static void numbers() {
        String[] threes = {"3", "03", "003", "0003"};
        for (String three : threes) {
            CHECK.due("odds " + three, fine("odds " + three + ";", 0).told(1), 3);
        }
        CHECK.due("0000", fine("odds 0000;", 0).told(1), 0);
        faulty("odds ^00003;", 1);
        faulty("odds ^00000;", 1);
        faulty("odds ^12345;", 1);
        faulty("odds ^000000000000000000003;", 1);
        faulty("odds ^4294967299;", 1);
        faulty("odds ^18446744073709551619;", 1);
        faulty("odds ^" + "3".repeat(895), 1);
        faulty("odds ^9999;", 4);
        faulty("odds 3 ^4;", 2);
        faulty("^3", 2);
        faulty("^9999", 2);
        faulty("^10000", 1);
        faulty("odds ^p;", 2);
        faulty("odds ^abcdefghi;", 2);
        faulty("guest p wish ^abcdefghi bears 1 dear 1;", 2);
    }

    /** "NAME: a WORD of 1 to 8 letters that is none of odds, ..". */
    private static void names() {
        fine("guest a wish 1 bears 1 dear 1;", 1);
        fine("guest abcdefgh wish 1 bears 1 dear 1;", 1);
        faulty("guest ^abcdefghi wish 1 bears 1 dear 1;", 2);
        faulty("guest ^" + "a".repeat(13) + " wish 1 bears 1 dear 1;", 2);
        faulty("guest ^" + "z".repeat(800), 2);
        faulty(P + "butter ^abcdefghi p;", 2);
        faulty(P + "butter p ^abcdefghi;", 2);
        faulty("^abcdefghi", 2);
        faulty("^abcdefgh", 2);
        for (String word : Model.KEYWORDS) {
            faulty("guest ^" + word + " wish 1 bears 1 dear 1;", 2);
            faulty(P + "butter ^" + word + " p;", 2);
            faulty(P + "butter p ^" + word + ";", 2);
            String longer = word + "s";
            String shorter = word.substring(0, word.length() - 1);
            if (longer.length() <= 8) {
                fine("guest " + longer + " wish 1 bears 1 dear 1;", 1);
            }
            fine("guest " + shorter + " wish 1 bears 1 dear 1;", 1);
        }
        fine("guest a wish 1 bears 1 dear 1;guest aa wish 1 bears 1 dear 1;guest aaaaaaaa wish 1 bears 1 dear 1;"
            + "guest aaaaaaa wish 1 bears 1 dear 1;guest z wish 1 bears 1 dear 1;guest zzzzzzzz wish 1 bears 1 dear 1;", 6);
        faulty("guest abcdefgh wish 1 bears 1 dear 1;guest ^abcdefgh wish", 3);
        faulty("guest a wish 1 bears 1 dear 1;" + P + "guest ^a wish", 3);
        faulty(P + "guest ^p", 3);
        faulty("guest ^3", 2);
        faulty("guest ^;", 2);
        faulty("guest ^= wish", 2);
    }

    /** "between them blanks (10, 32)": any number of them, none where TOKENS end by themselves. */
    private static void blanks() {
        fine("", 0);
        fine(" ", 0);
        fine("\n", 0);
        fine(" \n\n  ", 0);
        fine("odds3;guest p wish1bears2dear3;guest q wish 1 bears 2 dear 3stays;butter p q;", 2);
        LoafTable x = fine("\n odds\n3\n;\n\nguest\np\nwish \n 1 bears\n2\n\ndear  3 end\n;\n ", 1);
        CHECK.due("ODDS", x.told(1), 3);
        CHECK.due("cuts an END", x.guest(0, 3), 2);
        faulty("odds 3^\t;", 1);
        faulty("odds 3;^\r\n", 1);
        faulty("^oddsresolve 3;", 2);
        faulty("odds 1 ^2;", 2);
        faulty(P + "butter ^pq;" + Q, 3);
        faulty("guest p ^wishes 1", 2);
        faulty("guest p wish 1 bears 2 dear 3 ^stay;", 2);
    }

    /** ODDS (0 to 16; 4 without) to SLICES (0 to 60; 0 without); "5 .. told already (at that WORD)". */
    private static void settings() {
        LoafTable none = fine("", 0);
        for (int i = 0; i < 5; i++) {
            String word = SETTINGS[i];
            CHECK.due(word + " without", none.told(i + 1), WITHOUT[i]);
            CHECK.due(word + " least", fine(word + " " + LOW[i] + ";", 0).told(i + 1), LOW[i]);
            CHECK.due(word + " most", fine(word + " " + HIGH[i] + ";", 0).told(i + 1), HIGH[i]);
            LoafTable one = fine(word + " " + HIGH[i] + ";" + P, 1);
            for (int k = 0; k < 5; k++) {
                CHECK.due(word + " alone: told " + k, one.told(k + 1), k == i ? HIGH[k] : WITHOUT[k]);
            }
            faulty(word + " ^" + (HIGH[i] + 1) + ";", 4);
            faulty(word + " ^9999;", 4);
            if (LOW[i] > 0) {
                faulty(word + " ^0;", 4);
                faulty(word + " ^0000;", 4);
            }
            faulty(word + " 1;^" + word + " 1;", 5);
            faulty(word + " 1;" + P + "\n ^" + word, 5);
            for (int k = 0; k < 5; k++) {
                if (k != i) {
                    faulty(word + " 1;" + SETTINGS[k] + " 1;^" + word + " 1;", 5);
                }
            }
            faulty(word + " ^;", 2);
            faulty(word + " ^p;", 2);
            faulty(word + " ^" + word + ";", 2);
            faulty(word + " 1 ^1;", 2);
            faulty(word + " 1 ^stays;", 2);
        }
        LoafTable all = fine(Q + "slices 60;loaf 1;" + P + "press 6;resolve 20;odds 16;", 2);
        int[] want = {16, 20, 6, 1, 60};
        for (int i = 0; i < 5; i++) {
            CHECK.due("in any order " + SETTINGS[i], all.told(i + 1), want[i]);
        }
    }

    /** WISH, BEARS, DEAR 0 to 20; GOES without a word, STAYS, cuts an END. */
    private static void guests() {
        LoafTable x = fine("guest p wish 0 bears 0 dear 0;guest q wish 20 bears 20 dear 20 stays;guest r wish 7 bears 8 dear 9 end;", 3);
        int[][] want = {{0, 0, 0, 0}, {20, 20, 20, 1}, {7, 8, 9, 2}};
        for (int g = 0; g < 3; g++) {
            for (int what = 0; what < 4; what++) {
                CHECK.due("guest(" + g + ", " + what + ")", x.guest(g, what), want[g][what]);
            }
            CHECK.due("nobody HUNGERS", x.guest(g, 4), 0);
            CHECK.due("all are THERE", x.guest(g, 5), 1);
            CHECK.none("to nobody without", x, x.guest(g, 6), 6);
        }
        faulty("guest p wish ^21 bears 2 dear 3;", 4);
        faulty("guest p wish 1 bears ^21 dear 3;", 4);
        faulty("guest p wish 1 bears 2 dear ^21;", 4);
        faulty("guest p wish 20 bears 20 dear ^9999;", 4);
        faulty("guest p ^bears 1 wish 2 dear 3;", 2);
        faulty("guest p wish 1 ^dear 2 bears 3;", 2);
        faulty("guest p wish 1 bears 2 ^stays;", 2);
        faulty("guest p wish 1 bears 2^;", 2);
        faulty("guest p wish ^bears 2", 2);
        faulty("guest p wish 1 bears ^dear", 2);
        faulty("guest p wish 1 bears 2 dear ^;", 2);
        faulty("guest p wish 1 bears 2 dear 3 ^4;", 2);
        faulty("guest p wish 1 bears 2 dear 3 ^p;", 2);
        faulty("guest p wish 1 bears 2 dear 3 stays ^end;", 2);
        faulty("guest p wish 1 bears 2 dear 3 end ^end;", 2);
        faulty("guest p wish 1 bears 2 dear 3 ^guest", 2);
    }

    private static String guests(int many) {
        StringBuilder text = new StringBuilder();
        for (int i = 0; i < many; i++) {
            text.append("guest ").append((char) ('a' + i)).append(" wish ").append(i).append(" bears 2 dear 3;");
        }
        return text.toString();
    }

    /** "GUESTS, at most 7"; "6 an eighth guest (at that WORD)". */
    private static void eighth() {
        LoafTable x = null;
        for (int many = 0; many <= 7; many++) {
            x = fine(guests(many), many);
            CHECK.due("GUESTS", x.told(0), many);
            CHECK.due("all are THERE", x.told(8), (1 << many) - 1);
        }
        for (int i = 0; i < 7; i++) {
            CHECK.due("numbered as they stand", x.guest(i, 0), i);
        }
        faulty(guests(7) + "^guest h wish 1 bears 2 dear 3;", 6);
        faulty(guests(7) + "^guest", 6);
        faulty(guests(7) + "^guest a wish 1 bears 2 dear 3;", 6);
        faulty(guests(7) + "^guest 3", 6);
        fine(guests(7) + "butter a g;butter g a;odds 3;", 7);
    }

    /** The seventh has all that the others have, through MARKS, too. */
    private static void seventh() {
        String[] ways = {"", " stays", " end"};
        StringBuilder text = new StringBuilder();
        for (int i = 0; i < 7; i++) {
            text.append("guest n").append((char) ('a' + i)).append(" wish ").append(14 + i).append(" bears ").append(7 - i)
                .append(" dear ").append(20 - i).append(ways[(i + 1) % 3]).append(';');
        }
        LoafTable x = fine(text + "butter ng na;butter na ng;", 7);
        sevenAs("a TABLE", x);
        x.mark();
        Check.table(x, "guest p wish 1 bears 1 dear 1;");
        Check.weeks(x, "soup p;");
        x.undo();
        sevenAs("taken back", x);
    }

    private static void sevenAs(String what, LoafTable x) {
        for (int i = 0; i < 7; i++) {
            int[] want = {14 + i, 7 - i, 20 - i, (i + 1) % 3, 0, 1, i == 0 ? 6 : i == 6 ? 0 : -1, i == 0 ? 64 : i == 6 ? 1 : 0};
            for (int k = 0; k < want.length; k++) {
                CHECK.due(what + ": guest(" + i + ", " + k + ")", x.guest(i, k), want[k]);
            }
            CHECK.due(what + ": NAME of " + i, Check.weeks(x, "cut n" + (char) ('a' + i) + ";"), 1);
            x.mark();
            x.live(0);
            CHECK.due(what + ": by it he CUTS", x.guest(i, (i + 1) % 3 == 1 ? 0 : 5), 0);
            x.undo();
        }
    }

    /** "(each at most once told as the first one; to nobody without)"; "who is named must be told ahead". */
    private static void butter() {
        LoafTable x = fine(P + Q + "butter q p;butter p q;", 2);
        CHECK.due("p passes it to q", x.guest(0, 6), 1);
        CHECK.due("q passes it to p", x.guest(1, 6), 0);
        LoafTable y = fine(P + Q + "guest r wish 1 bears 2 dear 3;butter q p;butter r p;", 3);
        CHECK.due("told twice as the second one", y.guest(0, 7), 6);
        CHECK.none("to nobody without", y, y.guest(0, 6), 6);
        faulty("butter ^p q;" + P + Q, 3);
        faulty(P + "butter p ^q;" + Q, 3);
        faulty(P + "butter ^q p;" + Q, 3);
        faulty(P + "butter ^q q;", 3);
        faulty(P + "butter p ^p;", 5);
        faulty(P + Q + "butter p q;butter ^p q;", 5);
        faulty(P + Q + "butter p q;butter ^p p;", 5);
        faulty(P + Q + "butter p q;butter ^p r;", 5);
        faulty(P + Q + "butter p q;butter ^p", 5);
        faulty(P + Q + "butter p q;butter q ^q;", 5);
        faulty(P + Q + "butter p q;butter q ^r;", 3);
        faulty(P + "butter ^3 p;", 2);
        faulty(P + "butter p ^3;", 2);
        faulty(P + "butter p ^;", 2);
        faulty(P + Q + "butter p q ^p;", 2);
    }

    /** "2 it can't stand there (the end: the text's length)": a text cut short at each of its bytes. */
    private static void cutShort() {
        String text = "odds 3;guest p wish 1 bears 2 dear 3 stays;guest q wish 4 bears 5 dear 6;butter p q;slices 7;";
        for (int n = 0; n <= text.length(); n++) {
            String part = text.substring(0, n);
            LoafTable x = new LoafTable();
            int answer = Check.table(x, part);
            if (part.isEmpty() || part.endsWith(";")) {
                CHECK.due("'" + part + "'", answer, part.split("guest", -1).length - 1);
                continue;
            }
            // a WORD that is cut short can't stand where it stands; else it is the end that can't
            Matcher word = Pattern.compile("[a-z]+$").matcher(part);
            boolean cut = word.find() && text.substring(n).matches("(?s)[a-z].*");
            CHECK.due("'" + part + "'", answer, -1);
            CHECK.due("'" + part + "': fault", x.fault(0), 2);
            CHECK.due("'" + part + "': place", x.fault(1), cut ? word.start() : n);
            if (!cut) {
                CHECK.due("'" + part + "' and blanks", Check.table(x, part + " \n "), -1);
                CHECK.due("'" + part + "' and blanks: the text's length", x.fault(1), n + 3);
            }
        }
    }

    /** "the first along the text". */
    private static void firstAlongTheText() {
        faulty("odds ^17;A", 4);
        faulty("odds 3;^odds 17;A", 5);
        faulty("odds 3;^A odds 17;", 1);
        faulty("odds 3;^12345 odds 17;", 1);
        faulty("^wish 17;odds 12345;", 2);
        faulty(P + "guest ^p wish 21 bears 21", 3);
        faulty(P + "guest q wish ^21 bears 21 dear 12345 butter;", 4);
        faulty(P + "butter p ^p A", 5);
        faulty(guests(7) + "^guest A", 6);
        faulty(guests(7) + "odds ^17;guest", 4);
    }

    /** "of one TOKEN the least kind". */
    private static void leastKind() {
        faulty("odds ^A;", 1);
        faulty("odds ^00017;", 1);
        faulty("odds 3 ^00017;", 1);
        faulty("guest ^12345", 1);
        faulty("guest p wish ^A", 1);
        faulty(P + "butter ^!", 1);
        faulty(P + "butter p ^!", 1);
        faulty("odds 3; guest ^odds", 2);
        faulty("odds 3 ^odds 3;", 2);
        faulty("odds ^odds 3;", 2);
        faulty(guests(7) + "odds ^guest", 2);
        faulty("odds 3 ^9999;", 2);
        faulty("odds 3 ^q;", 2);
        faulty("guest p ^p", 2);
        faulty(P + "butter ^q q;", 3);
    }

    /** What is not told by a TEXT is as without it, whatever the TEXT ahead told, one with a FAULT, too. */
    private static void nothingOfTheTextAhead() {
        String[] ahead = {"odds 16;resolve 20;press 6;loaf 60;slices 60;guest p wish 9 bears 9 dear 9 stays;guest q wish 9 bears 9 dear 9 end;"
            + "butter p q;butter q p;", "odds 15;resolve 19;press 5;loaf 59;slices 59;guest p wish 8 bears 8 dear 8 end;"
            + "guest q wish 9 bears 9 dear 9 stays;butter q p;butter p q;!"};
        for (String text : ahead) {
            LoafTable x = new LoafTable();
            Check.table(x, text);
            CHECK.due("two who go", Check.table(x, P + "guest q wish 4 bears 5 dear 6;"), 2);
            for (int i = 0; i < 5; i++) {
                CHECK.due(SETTINGS[i] + " without", x.told(i + 1), WITHOUT[i]);
            }
            CHECK.due("THERE", x.told(8), 3);
            for (int g = 0; g < 2; g++) {
                CHECK.due("GOES without a word", x.guest(g, 3), 0);
                CHECK.none("to nobody without", x, x.guest(g, 6), 6);
            }
            Check.table(x, text);
            CHECK.due("each is told once again", Check.table(x, "odds 1;resolve 1;press 1;loaf 1;slices 1;" + P + Q + "butter q p;butter p q;"), 2);
        }
    }

    /** "A TABLE that is taken is there in place of that ahead; it is DAY 0, all are THERE, .. there are no WEEKS." */
    private static void taken() {
        LoafTable x = Made.hungry();
        CHECK.none("a FAULT at the very end", x, x.table(40), 9);
        CHECK.due("DAY stays", x.told(6), 2);
        CHECK.due("GUESTS stay", x.told(0), 4);
        CHECK.due("WEEKS stay", x.mean(0, 1), true);
        Check.feed(x, "guest d wish 1 bears 0 dear 2;guest a wish 6 bears 5 dear 4 end;");
        CHECK.due("a TABLE", x.table(64), 2);
        int[] want = {2, 4, 5, 2, 8, 0, 0, 0, 3, 0, 0};
        for (int what = 0; what < want.length; what++) {
            CHECK.due("told(" + what + ")", x.told(what), want[what]);
        }
        int[][] guests = {{1, 0, 2, 0, 0, 1, -1, 0}, {6, 5, 4, 2, 0, 1, -1, 0}};
        for (int g = 0; g < 2; g++) {
            for (int what = 0; what <= 7; what++) {
                CHECK.due("guest(" + g + ", " + what + ")", x.guest(g, what), guests[g][what]);
            }
        }
        CHECK.none("no third", x, x.guest(2, 0), 1);
        CHECK.none("no WEEKS", x, x.live(0), 6);
        CHECK.due("LIVED stays", x.lived(0) >= 0, true);
        CHECK.due("the MARKS stay", x.mark(), 3);
        x.undo();
        CHECK.due("and are as they were", x.undo(), 1);
        CHECK.due("GUESTS of the MARK", x.told(0), 4);
        CHECK.due("DAY of the MARK", x.told(6), 1);
    }

    /** "Of the latest table() or weeks() with STATUS 0 or 9 .. NONE for others, and ahead of any." */
    private static void faultTold() {
        LoafTable x = new LoafTable();
        told("ahead of any", x, -1, -1);
        x.table(1);
        x.weeks(1);
        x.table(-1);
        told("STATUS 1 is none of these", x, -1, -1);
        x.table(0);
        told("without a FAULT", x, 0, -1);
        Check.table(x, "odds 17;");
        told("with one", x, 4, 5);
        x.table(1);
        x.weeks(301);
        told("STATUS 1 leaves it", x, 4, 5);
        Check.weeks(x, " end;");
        told("of weeks()", x, 2, 1);
        x.weeks(0);
        told("of weeks() without one", x, 0, -1);
        LoafTable y = new LoafTable();
        y.weeks(0);
        told("of weeks() alone", y, 0, -1);
        Check.weeks(y, "!");
        told("with the least kind, at 0", y, 1, 0);
        y.mark();
        y.undo();
        told("undo() leaves it", y, 1, 0);
    }

    private static void told(String what, LoafTable x, int fault, int place) {
        CHECK.due(what + ": fault(0)", x.fault(0), fault);
        CHECK.due(what + ": fault(1)", x.fault(1), place);
        for (int other : new int[] {-1, 2, 9, Integer.MIN_VALUE, Integer.MAX_VALUE}) {
            CHECK.due(what + ": fault(" + other + ")", x.fault(other), -1);
        }
    }
}
