import java.io.IOException;
import java.lang.reflect.Constructor;
import java.lang.reflect.Field;
import java.lang.reflect.Method;
import java.lang.reflect.Modifier;
import java.nio.file.Files;
import java.nio.file.Path;
import java.util.ArrayList;
import java.util.Arrays;
import java.util.HashSet;
import java.util.List;
import java.util.Set;
import java.util.TreeSet;
import java.util.regex.Matcher;
import java.util.regex.Pattern;

/** The public face is the document's, and what of LANGUAGE.md a program can look at holds. */
public final class FaceTest {
    private static final String[] FACE = {"int status()", "long top()", "long bottom()", "boolean tray(int,int,int)",
        "boolean write(int,int,long)", "long read(int,int)", "boolean pour(int,int,int,int,int)", "int feed(int,int,int,int,int)",
        "int table(int)", "int weeks(int)", "int fault(int)", "int told(int)", "int guest(int,int)", "int cutter()",
        "int wanted()", "int day(int)", "int cut(int)", "int butter(int,int)", "int soup(int)", "int bake(int)",
        "int sway(int,int)", "int sit(int,int,int,int)", "int come(int)", "boolean rule(int,int)", "int thereIn(int)",
        "int slicesIn(int)", "int guestIn(int,int,int)", "int next()", "int nextBy()", "int hangs()", "int starving()",
        "int least(int)", "int plan(int)", "int planAt(int,int)", "int seen(int,int,int)", "int seenAs(int,int,int,int)",
        "int ask(int,int,int)", "boolean waits(int,int)", "boolean chance(int,int)", "boolean stale(int)", "boolean share(int)",
        "int game(int,int,int)", "int moveOf(int,int,int)", "int copyWishes(int)", "int live(int)", "int lived(int)",
        "boolean mean(int,int)", "int mark()", "int undo()"};

    public static void main(String[] args) throws IOException {
        Check check = new Check("FaceTest");
        face(check);
        inside(check);
        source(check, Files.readString(Path.of(args.length > 0 ? args[0] : ".", "src/main/java/LoafTable.java")));
        check.due("NONE", LoafTable.NONE, -1);
        check.end();
    }

    private static void face(Check check) {
        Set<String> have = new TreeSet<>();
        for (Method m : LoafTable.class.getDeclaredMethods()) {
            if (Modifier.isPrivate(m.getModifiers())) {
                continue;
            }
            List<String> types = new ArrayList<>();
            for (Class<?> type : m.getParameterTypes()) {
                types.add(type.getName());
            }
            have.add(m.getReturnType().getName() + " " + m.getName() + "(" + String.join(",", types) + ")");
            check.due(m.getName() + " is public, not static", Modifier.isPublic(m.getModifiers()) && !Modifier.isStatic(m.getModifiers()), true);
        }
        Set<String> want = new TreeSet<>(Arrays.asList(FACE));
        check.due("the methods " + have, have.equals(want), true);
        Constructor<?>[] made = LoafTable.class.getDeclaredConstructors();
        check.due("one constructor", made.length, 1);
        check.due("without parameters", made[0].getParameterCount(), 0);
        check.due("public", Modifier.isPublic(made[0].getModifiers()), true);
        check.due("a public final class", Modifier.isPublic(LoafTable.class.getModifiers()) && Modifier.isFinal(LoafTable.class.getModifiers()), true);
        for (Field f : LoafTable.class.getDeclaredFields()) {
            check.due("field " + f.getName(), Modifier.isPrivate(f.getModifiers()) != f.getName().equals("NONE"), true);
        }
    }

    private static void inside(Check check) {
        Set<String> names = new HashSet<>();
        for (String method : FACE) {
            names.add(method.substring(method.indexOf(' ') + 1, method.indexOf('(')));
        }
        List<Class<?>> classes = new ArrayList<>(Arrays.asList(LoafTable.class.getDeclaredClasses()));
        check.due("at most twelve classes", classes.size() < 12, true);
        for (Class<?> c : classes) {
            check.due(c + " is static", Modifier.isStatic(c.getModifiers()), true);
            check.due(c + " holds no class", c.getDeclaredClasses().length, 0);
            for (Method m : c.getDeclaredMethods()) {
                check.due(c + " " + m.getName() + " is not of the face", names.contains(m.getName()), false);
            }
        }
        classes.add(LoafTable.class);
        for (Class<?> c : classes) {
            int fields = 0;
            for (Field f : c.getDeclaredFields()) {
                fields += Modifier.isStatic(f.getModifiers()) ? 0 : 1;
                check.due(f + " static and final", !Modifier.isStatic(f.getModifiers()) || Modifier.isFinal(f.getModifiers()), true);
            }
            check.due(c + " has at most twenty fields: " + fields, fields <= 20, true);
            for (Method m : c.getDeclaredMethods()) {
                check.due(m + " has at most seven parameters", m.getParameterCount() <= 7, true);
                check.due(m + " is of its own", m.isSynthetic(), false);
            }
        }
    }

    private static void source(Check check, String source) {
        String code = source.replaceAll("(?s)/\\*.*?\\*/", "").replaceAll("//[^\n]*", "").replaceAll("\"[^\"\n]*\"", "TEXT");
        String[] banned = {"\\bthrows?\\b", "\\btry\\b", "\\bcatch\\b", "\\bfinally\\b", "\\bsynchronized\\b", "\\bassert\\b", "->",
            "::", "\\bpackage\\b", "\\bimport\\b", "Exact\\b", "Math\\.random", "Thread", "Object\\b", "\\bprotected\\b",
            "static \\{", "TEXT \\+", "\\+ TEXT", "while \\(true\\)", "for \\(;;\\)", "\\b(float|double)\\b"};
        for (String ban : banned) {
            Matcher m = Pattern.compile(ban).matcher(code);
            check.due("in the source: " + ban, m.find(), false);
        }
        Matcher system = Pattern.compile("System\\.(\\w+)").matcher(code);
        while (system.find()) {
            check.due("System." + system.group(1), system.group(1).equals("arraycopy"), true);
        }
        for (int i = 0; i < source.length(); i++) {
            char sign = source.charAt(i);
            if (sign != '\n' && (sign < 32 || sign > 126)) {
                check.due("the sign at " + i, sign, 32);
            }
        }
        methodLengths(check, source.split("\n"));
    }

    private static void methodLengths(Check check, String[] lines) {
        Pattern head = Pattern.compile("^( {4}| {8})(?! )(?!.*\\bclass\\b)[^=;]*\\([^;]*\\) \\{$");
        for (int i = 0; i < lines.length; i++) {
            Matcher m = head.matcher(lines[i]);
            if (!m.matches()) {
                continue;
            }
            int end = i;
            while (end < lines.length && !lines[end].equals(m.group(1) + "}")) {
                end++;
            }
            check.due("lines of" + lines[i], end - i <= 60, true);
        }
    }
}
