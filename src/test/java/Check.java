import java.nio.charset.StandardCharsets;
import java.util.Arrays;

/** What the tests share: due answers, texts onto the tape. */
final class Check {
    private final String test;
    private int asked;
    private int wrong;

    Check(String test) {
        this.test = test;
    }

    void due(String what, long got, long want) {
        asked++;
        if (got != want) {
            wrong++;
            System.out.println(test + ": " + what + " answered " + got + ", due is " + want);
        }
    }

    void due(String what, boolean got, boolean want) {
        due(what, got ? 1 : 0, want ? 1 : 0);
    }

    /** An answer NONE with its STATUS. */
    void none(String what, LoafTable x, long got, int status) {
        due(what, got, LoafTable.NONE);
        due(what + ": status", x.status(), status);
    }

    void not(String what, LoafTable x, boolean got, int status) {
        due(what, got, false);
        due(what + ": status", x.status(), status);
    }

    void fraction(String what, LoafTable x, boolean got, long top, long bottom) {
        due(what, got, true);
        due(what + ": status", x.status(), 0);
        due(what + ": top", x.top(), top);
        due(what + ": bottom", x.bottom(), bottom);
    }

    /** A text that has a FAULT. */
    void faulty(LoafTable x, boolean weeks, String text, int fault, int place) {
        int got = weeks ? weeks(x, text) : table(x, text);
        none("'" + text + "'", x, got, 9);
        due("'" + text + "': fault", x.fault(0), fault);
        due("'" + text + "': place", x.fault(1), place);
    }

    static void feed(LoafTable x, String text) {
        byte[] bytes = text.getBytes(StandardCharsets.ISO_8859_1);
        for (int i = 0; i < bytes.length; i += 20) {
            byte[] part = Arrays.copyOfRange(bytes, i, i + 20);
            int[] words = new int[5];
            for (int k = 0; k < 20; k++) {
                words[k / 4] = words[k / 4] << 8 | part[k] & 255;
            }
            x.feed(words[0], words[1], words[2], words[3], words[4]);
        }
    }

    static int table(LoafTable x, String text) {
        feed(x, text);
        return x.table(text.length());
    }

    static int weeks(LoafTable x, String text) {
        feed(x, text);
        return x.weeks(text.length());
    }

    static LoafTable laid(String text) {
        LoafTable x = new LoafTable();
        if (table(x, text) < 0) {
            throw new IllegalStateException(text);
        }
        return x;
    }

    void end() {
        System.out.println(test + ": " + asked + " asked, " + wrong + " wrong");
        if (wrong != 0 || asked == 0) {
            System.exit(1);
        }
    }
}
