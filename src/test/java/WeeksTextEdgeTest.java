import java.util.regex.Matcher;
import java.util.regex.Pattern;

/**
 * Terms 4 (WEEKS as a TEXT), promise 11: a check for each edge that they name. In a text that has a FAULT the sign ^
 * (which is taken out) stands ahead of its place.
 */
public final class WeeksTextEdgeTest {
    private static final Check CHECK = new Check("WeeksTextEdgeTest");
    private static final String TABLE = "guest p wish 1 bears 2 dear 3;guest abcdefgh wish 4 bears 5 dear 6 stays;";
    private static final String[] WORDS = {"day", "cut", "butter", "soup", "bake", "any", "when", "loop", "stop"};

    public static void main(String[] args) {
        bytes();
        amounts();
        names();
        tests();
        ends();
        endsBehindFaults();
        thirty();
        nested();
        outOfPlace();
        cutShort();
        firstAndLeast();
        taken();
        CHECK.end();
    }

    private static void faulty(String marked, int fault) {
        CHECK.faulty(Check.laid(TABLE), true, marked.replace("^", ""), fault, marked.indexOf('^'));
    }

    private static LoafTable fine(String text, int steps) {
        LoafTable x = Check.laid(TABLE);
        CHECK.due("'" + text + "'", Check.weeks(x, text), steps);
        CHECK.due("'" + text + "': status", x.status(), 0);
        CHECK.due("'" + text + "': fault", x.fault(0), 0);
        CHECK.due("'" + text + "': place", x.fault(1), -1);
        return x;
    }

    /** "a TEXT of at most 300 bytes"; "1: above 300, too"; the tape as with table(). */
    private static void bytes() {
        fine("any;" + " ".repeat(295), 1);
        fine("any;" + " ".repeat(296), 1);
        fine(" ".repeat(300), 0);
        LoafTable x = Check.laid(TABLE);
        Check.feed(x, "any;" + "\n".repeat(296) + "stop;" + " ".repeat(15));
        CHECK.none("301 of 320 bytes", x, x.weeks(301), 1);
        CHECK.none("305 of 320 bytes", x, x.weeks(305), 1);
        CHECK.none("321 of 320 bytes", x, x.weeks(321), 1);
        CHECK.none("-1", x, x.weeks(-1), 1);
        CHECK.due("fault(0) ahead of any weeks()", x.fault(0), 0);
        CHECK.due("300 of 320 bytes", x.weeks(300), 1);
        CHECK.none("the tape is empty then", x, x.weeks(1), 1);
        CHECK.due("feed on it", x.feed(0x616e793b, 0x616e793b, 0x616e793b, 0x616e793b, 0x616e793b), 20);
        CHECK.none("21 of 20 bytes", x, x.weeks(21), 1);
        CHECK.due("the first 8 of 20 bytes", x.weeks(8), 2);
        CHECK.none("the tape is empty then", x, x.weeks(1), 1);
        Check.feed(x, "any;any!");
        CHECK.none("a FAULT", x, x.weeks(8), 9);
        CHECK.none("the tape is empty then, too", x, x.weeks(1), 1);
        CHECK.due("the old WEEKS stay", x.live(0), 2);
        CHECK.due("weeks(0)", x.weeks(0), 0);
        CHECK.due("STATUS", x.status(), 0);
        for (int i = 0; i < 45; i++) {
            x.feed(0x616e793b, 0x20202020, 0x20202020, 0x20202020, 0x20202020);
        }
        CHECK.none("301 of 900 bytes", x, x.weeks(301), 1);
        CHECK.none("900 of 900 bytes", x, x.weeks(900), 1);
        CHECK.due("300 of 900 bytes", x.weeks(300), 15);
    }

    /** day "so many (1 to 20); bake: 1 to 60"; "loop n (1 to 99)"; bread against 0 to 60, wish against 0 to 20. */
    private static void amounts() {
        String[][] ranges = {{"day ", "1", "20", ";"}, {"bake ", "1", "60", ";"}, {"loop ", "1", "99", ";end;"},
            {"when bread < ", "0", "60", ";end;"}, {"when bread > ", "0", "60", ";end;"}, {"when bread = ", "0", "60", ";end;"},
            {"when wish p < ", "0", "20", ";end;"}, {"when wish p > ", "0", "20", ";end;"}, {"when wish p = ", "0", "20", ";end;"}};
        for (String[] r : ranges) {
            int low = Integer.parseInt(r[1]);
            int high = Integer.parseInt(r[2]);
            fine(r[0] + low + r[3], 1);
            fine(r[0] + high + r[3], 1);
            fine(r[0] + "00" + high + r[3], 1);
            if (low > 0) {
                faulty(r[0] + "^0" + r[3], 4);
                faulty(r[0] + "^0000" + r[3], 4);
            }
            faulty(r[0] + "^" + (high + 1) + r[3], 4);
            faulty(r[0] + "^9999" + r[3], 4);
            faulty(r[0] + "^00001" + r[3], 1);
            faulty(r[0] + "^4294967297" + r[3], 1);
            faulty(r[0] + "^;", 2);
            faulty(r[0] + "^p;", 2);
            faulty(r[0] + "^abcdefghi;", 2);
            faulty(r[0] + low + " ^1;", 2);
        }
    }

    /** "3 a NAME that is no GUEST"; "5 butter to himself (at the second NAME)". */
    private static void names() {
        fine("cut p;cut abcdefgh;soup p;soup abcdefgh;butter p abcdefgh;butter abcdefgh p;", 6);
        String[] ahead = {"cut ", "soup ", "butter ", "butter p ", "when there ", "when hungry ", "when wish "};
        for (String a : ahead) {
            faulty(a + "^q", 3);
            faulty(a + "^abcdefg;", 3);
            faulty(a + "^pp;", 3);
            faulty(a + "^abcdefghi;", 2);
            faulty(a + "^3;", 2);
            faulty(a + "^;", 2);
            faulty(a + "^= 3;", 2);
            for (String word : Model.KEYWORDS) {
                faulty(a + "^" + word + ";", 2);
            }
        }
        faulty("butter p ^p;", 5);
        faulty("butter abcdefgh ^abcdefgh;", 5);
        faulty("butter ^q q;", 3);
        faulty("butter p abcdefgh ^p;", 2);
        faulty("cut p ^p;", 2);
        LoafTable x = Check.laid(TABLE);
        CHECK.due("GUESTS told by sit() have no NAME", x.sit(1, 2, 3, 0), 2);
        for (String name : new String[] {"a", "c", "z", "none", "nobody", "null"}) {
            CHECK.faulty(x, true, "cut " + name + ";", 3, 4);
        }
        CHECK.due("those of the TABLE have theirs", Check.weeks(x, "cut p;cut abcdefgh;"), 2);
        x.cut(0);
        CHECK.due("those GONE, too", Check.weeks(x, "cut p;when there p;end;"), 2);
        LoafTable y = new LoafTable();
        y.sit(1, 2, 3, 0);
        CHECK.faulty(y, true, "cut p;", 3, 4);
        CHECK.faulty(y, true, "when wish a = 0;end;", 3, 10);
    }

    /** TEST: there, hungry NAME, or bread COMPARES NUMBER, or wish NAME COMPARES NUMBER; COMPARES: < or > or =. */
    private static void tests() {
        fine("when there p;end;when hungry abcdefgh;end;when bread<0;end;when wish abcdefgh=0;end;", 4);
        faulty("when ^p;", 2);
        faulty("when ^;", 2);
        faulty("when ^3;", 2);
        faulty("when ^<3;", 2);
        faulty("when ^any;", 2);
        faulty("when ^dear p > 3;", 2);
        faulty("when ^slices > 3;", 2);
        faulty("when there p ^> 3;", 2);
        faulty("when hungry p ^3;", 2);
        faulty("when bread ^3;", 2);
        faulty("when bread ^;3;", 2);
        faulty("when bread ^p < 3;", 2);
        faulty("when bread < ^= 3;", 2);
        faulty("when bread < ^< 3;", 2);
        faulty("when wish ^< 3;", 2);
        faulty("when wish p ^3;", 2);
        faulty("when wish p ^; 3;", 2);
        faulty("when wish p > ^> 3;", 2);
        faulty("when bread = 3^", 2);
        faulty("when bread = 3 ^any;", 2);
    }

    /** "(an end without a beginning; the text's end ahead of an end: 2)". */
    private static void ends() {
        fine("loop 1;end;", 1);
        fine("loop 1;end;loop 1;end;", 2);
        faulty("^end;", 2);
        faulty("any;^end;", 2);
        faulty("loop 1;end;^end;", 2);
        faulty("when there p;loop 1;end;end;any;^end;", 2);
        faulty("loop 1;^", 2);
        faulty("loop 1; \n ^", 2);
        faulty("when there p;any;^", 2);
        faulty("loop 1;loop 1;end;^", 2);
        faulty("loop 1;end^", 2);
        faulty("loop 1;end ^any;", 2);
        faulty("loop 1;end ^end;", 2);
        faulty("loop 1;^ends;", 2);
    }

    /** What a TEXT with a FAULT has begun is no beginning for the next one. */
    private static void endsBehindFaults() {
        LoafTable x = Check.laid(TABLE);
        for (String open : new String[] {"loop 1;", "loop 1;loop 1;", "when there p;loop 1;loop 1;any;", "loop 1;loop 1;loop 1;loop 1;", "loop 0;"}) {
            CHECK.due("a FAULT", Check.weeks(x, open), -1);
            CHECK.faulty(x, true, "end;", 2, 0);
            CHECK.due("a FAULT", Check.weeks(x, open), -1);
            CHECK.due("three within one another", Check.weeks(x, "loop 1;loop 1;loop 1;end;end;end;"), 3);
            CHECK.due("a FAULT", Check.weeks(x, open), -1);
            CHECK.due("thirty STEPS", Check.weeks(x, "any;".repeat(30)), 30);
        }
    }

    /** "6 a 31st STEP (at its WORD; end is none)". */
    private static void thirty() {
        fine("any;".repeat(29), 29);
        fine("any;".repeat(30), 30);
        faulty("any;".repeat(30) + "^any;", 6);
        for (String word : WORDS) {
            faulty("any;".repeat(30) + "^" + word, 6);
            faulty("any;".repeat(30) + "^" + word + " !", 6);
        }
        fine("loop 1;end;".repeat(24) + "any;".repeat(6), 30);
        fine("loop 1;" + "any;".repeat(29) + "end;", 30);
        fine("loop 1;loop 1;loop 1;" + "any;".repeat(27) + "end;end;end;", 30);
        faulty("loop 1;" + "any;".repeat(29) + "^any;end;", 6);
        faulty("loop 1;" + "any;".repeat(29) + "end;^stop;", 6);
        faulty("loop 1;" + "any;".repeat(29) + "end;^when", 6);
        faulty("any;".repeat(29) + "loop 1;^day 1;end;", 6);
        faulty("any;".repeat(29) + "loop 1;^", 2);
        faulty("any;".repeat(29) + "loop 1;end;^end;", 2);
        faulty("any;".repeat(30) + "^end;", 2);
        faulty("any;".repeat(30) + "^p;", 2);
        faulty("any;".repeat(30) + "^!", 1);
    }

    /** "7 a when, loop within three others (at its WORD)". */
    private static void nested() {
        fine("loop 1;when there p;loop 1;any;end;end;end;", 4);
        fine("when there p;when there p;when there p;end;end;end;", 3);
        fine("loop 1;loop 1;loop 1;end;loop 1;end;end;loop 1;loop 1;end;end;end;", 6);
        faulty("loop 1;loop 1;loop 1;^loop 1;end;end;end;end;", 7);
        faulty("loop 1;loop 1;loop 1;^when there p;end;end;end;end;", 7);
        faulty("when there p;when there p;when there p;^when", 7);
        faulty("loop 1;loop 1;loop 1;^loop !", 7);
        faulty("loop 1;loop 1;loop 1;end;loop 1;any;^loop 1;", 7);
        faulty("loop 1;loop 1;loop 1;end;end;loop 1;loop 1;^when", 7);
        faulty("loop 1;end;loop 1;loop 1;loop 1;^loop", 7);
    }

    /** "2 can't stand there": WORDS of a TABLE, NUMBERS, SIGNS where a STEP begins; what is behind a whole STEP. */
    private static void outOfPlace() {
        String[] others = {"odds", "resolve", "press", "loaf", "slices", "guest", "wish", "bears", "dear", "stays", "there", "hungry",
            "bread", "p", "abcdefghi", "3", "9999", ";", "<", ">", "="};
        for (String other : others) {
            faulty("^" + other + " 3;", 2);
            faulty("any;loop 2;\n^" + other + " 3;", 2);
        }
        faulty("any ^3;", 2);
        faulty("any ^p;", 2);
        faulty("any;^;", 2);
        faulty("stop ^3;", 2);
        faulty("stop ^any;", 2);
        faulty("any ^any;", 2);
        faulty("day ^day;", 2);
        faulty("loop ^any;", 2);
    }

    private static void cutShort() {
        String text = "day 3;cut p;butter p abcdefgh;soup p;bake 8;any;when there p;loop 2;when bread < 3;end;stop;end;"
            + "when wish p = 4;end;end;when hungry p;end;";
        for (int n = 0; n <= text.length(); n++) {
            String part = text.substring(0, n);
            LoafTable x = Check.laid(TABLE);
            int answer = Check.weeks(x, part);
            int begun = part.split("when|loop", -1).length - 1;
            int ended = part.split("end;", -1).length - 1;
            if (part.isEmpty() || part.endsWith(";") && begun == ended) {
                CHECK.due("'" + part + "'", answer, part.split(";", -1).length - 1 - ended);
                continue;
            }
            // a WORD that is cut short can't stand where it stands (a NAME is no GUEST then); else it is the end that can't
            Matcher word = Pattern.compile("[a-z]+$").matcher(part);
            boolean cut = word.find() && text.substring(n).matches("(?s)[a-z].*");
            boolean named = cut && part.matches("(?s).*butter p [a-z]+");
            CHECK.due("'" + part + "'", answer, -1);
            CHECK.due("'" + part + "': fault", x.fault(0), named ? 3 : 2);
            CHECK.due("'" + part + "': place", x.fault(1), cut ? word.start() : n);
        }
    }

    /** "the first along the text (of one TOKEN the least kind)". */
    private static void firstAndLeast() {
        faulty("day ^21;!", 4);
        faulty("cut ^q;day 21;", 3);
        faulty("butter p ^p!", 5);
        faulty("^wish;!", 2);
        faulty("any;^!;day 21;", 1);
        faulty("day ^!;", 1);
        faulty("cut ^!;", 1);
        faulty("butter p ^!;", 1);
        faulty("when ^!", 1);
        faulty("when bread ^!", 1);
        faulty("when bread < ^!", 1);
        faulty("any^!", 1);
        faulty("loop 1;end^!", 1);
        faulty("any ^9999;", 2);
        faulty("any ^99999;", 1);
        faulty("day 1 ^q;", 2);
        faulty("butter ^q q;", 3);
        faulty("loop 1;loop 1;loop 1;" + "any;".repeat(27) + "^loop 1;", 6);
        faulty("loop 1;loop 1;loop 1;" + "any;".repeat(27) + "^when there q;", 6);
        faulty("loop 1;loop 1;loop 1;" + "any;".repeat(26) + "^loop 1;", 7);
        faulty("loop 1;loop 1;loop 1;" + "any;".repeat(26) + "any;end;^loop 1;", 6);
        faulty("loop 1;loop 1;loop ^0;loop 1;", 4);
    }

    /** "Likewise the WEEKS": those ahead stay by a FAULT, are gone by others; nothing else changes. */
    private static void taken() {
        LoafTable x = fine("any;any;any;", 3);
        CHECK.faulty(x, true, "any;day 21;", 4, 8);
        CHECK.due("three still", x.live(0), 3);
        CHECK.due("one", Check.weeks(x, "stop;"), 1);
        CHECK.due("one now", x.live(0), 1);
        CHECK.due("none", Check.weeks(x, ""), 0);
        CHECK.due("none now", x.live(0), 0);
        CHECK.faulty(x, true, "end;", 2, 0);
        CHECK.due("none still", x.live(0), 0);
        LoafTable y = Made.hungry();
        LoafTable z = Made.hungry();
        y.weeks(0);
        z.weeks(0);
        Check.weeks(y, "any;day 2;when hungry d;soup d;end;");
        Check.weeks(z, "any;day 2;when hungry d;soup d;end;");
        Check.weeks(y, "cut zz;");
        Check.weeks(z, "day 99;");
        CHECK.due("kind", y.fault(0), 3);
        y.weeks(0);
        z.weeks(0);
        Twin.same(CHECK, "another FAULT", y, z);
    }
}
