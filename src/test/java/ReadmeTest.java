import java.io.IOException;
import java.lang.reflect.Method;
import java.lang.reflect.Modifier;
import java.net.URL;
import java.net.URLClassLoader;
import java.nio.file.Files;
import java.nio.file.Path;
import java.util.ArrayList;
import java.util.List;
import java.util.Map;
import java.util.Set;
import java.util.TreeMap;
import java.util.TreeSet;
import java.util.regex.Matcher;
import java.util.regex.Pattern;
import java.util.stream.Collectors;
import java.util.stream.Stream;
import javax.tools.ToolProvider;

/** README.md: its code compiles and answers as it says; each call, with each STATUS that it can have, and each test is named. */
public final class ReadmeTest {
    private static final Check CHECK = new Check("ReadmeTest");
    private static final Pattern BLOCK = Pattern.compile("(?s)```java\n(.*?)```");
    private static final Pattern ANSWERED = Pattern.compile("(x\\.\\w+\\(.*\\));\\s*// (-?\\d+|true|false)\\b.*");
    private static final Pattern ROW = Pattern.compile("(?m)^\\| (`\\w+\\(.*?) \\| (.*) \\| (.*) \\|$");
    private static final Pattern CALL = Pattern.compile("`(\\w+)\\(([^)`]*)\\)`");
    private static final Pattern STATUS = Pattern.compile("(?:^|[;,] )(\\d)(?=$|[;:,])");

    public static void main(String[] args) throws Exception {
        Path root = Path.of(args.length > 0 ? args[0] : ".");
        String readme = Files.readString(root.resolve("README.md"));
        code(readme);
        calls(readme);
        tests(readme, root);
        CHECK.end();
    }

    /** All blocks in one class: those that begin with "static" are its methods, the others are run one behind the other. */
    private static void code(String readme) throws Exception {
        StringBuilder methods = new StringBuilder();
        StringBuilder run = new StringBuilder();
        int answers = 0;
        Matcher block = BLOCK.matcher(readme);
        while (block.find()) {
            if (block.group(1).startsWith("static ")) {
                methods.append(block.group(1));
                continue;
            }
            for (String line : block.group(1).split("\n")) {
                Matcher m = ANSWERED.matcher(line);
                boolean answered = m.matches();
                CHECK.due("a line with a remark tells an answer: " + line, answered, line.contains("//"));
                answers += answered ? 1 : 0;
                run.append(answered ? "answers.add(String.valueOf(" + m.group(1) + "));dues.add(\"" + m.group(2) + "\");" : line).append('\n');
            }
        }
        CHECK.due("answers in README.md: " + answers, answers >= 20, true);
        answersOf("public final class ReadmeCode {" + methods + "public static void run(java.util.List<String> answers, "
            + "java.util.List<String> dues) {" + run + "}}");
    }

    private static void answersOf(String source) throws Exception {
        Path dir = Files.createTempDirectory("readme");
        try {
            Path file = Files.writeString(dir.resolve("ReadmeCode.java"), source);
            int compiled = ToolProvider.getSystemJavaCompiler().run(null, null, null, "-d", dir.toString(), "-cp",
                System.getProperty("java.class.path"), file.toString());
            CHECK.due("the code compiles", compiled, 0);
            List<String> answers = new ArrayList<>();
            List<String> dues = new ArrayList<>();
            try (URLClassLoader loader = new URLClassLoader(new URL[] {dir.toUri().toURL()}, ReadmeTest.class.getClassLoader())) {
                loader.loadClass("ReadmeCode").getMethod("run", List.class, List.class).invoke(null, answers, dues);
            }
            for (int i = 0; i < answers.size(); i++) {
                CHECK.due("answer " + (i + 1) + ": " + answers.get(i) + ", README.md says " + dues.get(i), answers.get(i).equals(dues.get(i)), true);
            }
        } finally {
            for (String name : new String[] {"ReadmeCode.java", "ReadmeCode.class"}) {
                Files.deleteIfExists(dir.resolve(name));
            }
            Files.delete(dir);
        }
    }

    /** The rows of calls: each of the face once, with as many numbers as it has, and the STATUS that LooksTest lists for it. */
    private static void calls(String readme) {
        Map<String, String> listed = new TreeMap<>();
        for (String call : LooksTest.LISTED) {
            listed.put(call.substring(0, call.indexOf(' ')), call.substring(call.indexOf(' ') + 1));
        }
        Map<String, Integer> named = new TreeMap<>();
        Matcher row = ROW.matcher(readme);
        while (row.find()) {
            Matcher call = CALL.matcher(row.group(1));
            while (call.find()) {
                String name = call.group(1);
                CHECK.due("named once: " + name, named.containsKey(name), false);
                named.put(name, call.group(2).isEmpty() ? 0 : call.group(2).split(",").length);
                Set<Character> status = new TreeSet<>();
                Matcher m = STATUS.matcher(row.group(3));
                while (m.find()) {
                    status.add(m.group(1).charAt(0));
                }
                Set<Character> want = listed.getOrDefault(name, "").chars().mapToObj(c -> (char) c).collect(Collectors.toCollection(TreeSet::new));
                CHECK.due(name + " is refused by " + status + ", listed are " + want, status.equals(want), true);
            }
        }
        for (Method m : LoafTable.class.getDeclaredMethods()) {
            if (Modifier.isPublic(m.getModifiers())) {
                CHECK.due("numbers of " + m.getName(), named.getOrDefault(m.getName(), -1), m.getParameterCount());
            }
        }
        CHECK.due("calls", named.size(), 49);
    }

    private static void tests(String readme, Path root) throws IOException {
        Set<String> there;
        try (Stream<Path> files = Files.list(root.resolve("src/test/java"))) {
            there = files.map(f -> f.getFileName().toString().replace(".java", "")).filter(f -> f.endsWith("Test"))
                .collect(Collectors.toCollection(TreeSet::new));
        }
        Set<String> named = new TreeSet<>();
        Matcher m = Pattern.compile("(?m)^\\| (\\w+Test) \\|").matcher(readme);
        while (m.find()) {
            named.add(m.group(1));
        }
        CHECK.due("the tests " + there + ", named are " + named, named.equals(there), true);
    }
}
