import java.lang.reflect.Method;
import java.lang.reflect.Modifier;
import java.util.ArrayList;
import java.util.Comparator;
import java.util.HashMap;
import java.util.List;
import java.util.Map;
import java.util.Random;

/** Many runs of calls by fixed seeds: every answer of the class is the model's. Promises 1 to 50. */
public final class FuzzTest {
    private static final String[] NAMES = {"a", "b", "c", "d", "e", "f", "g", "longname"};
    private static final String[] SCRAPS = {"odds", "resolve", "press", "loaf", "slices", "guest", "wish", "bears", "dear",
        "stays", "end", "butter", "day", "cut", "soup", "bake", "any", "when", "there", "hungry", "bread", "loop", "stop",
        ";", "<", ">", "=", "0", "1", "2", "16", "20", "21", "60", "61", "99", "100", "0007", "12345", "00001", "a", "b",
        "zz", "abcdefgh", "abcdefghi", "A", "-", "\t", "\u00e9", "\0", "ends"};

    private final Random random;
    private LoafTable x;
    private Model model;
    private String log = "";
    private final Map<String, Integer> answered;

    private FuzzTest(long seed, Map<String, Integer> answered) {
        random = new Random(seed);
        this.answered = answered;
    }

    public static void main(String[] args) throws Exception {
        List<Method> methods = new ArrayList<>();
        for (Method m : LoafTable.class.getDeclaredMethods()) {
            if (Modifier.isPublic(m.getModifiers())) {
                methods.add(m);
            }
        }
        methods.sort(Comparator.comparing(Method::getName));
        Map<String, Integer> answered = new HashMap<>();
        int runs = Integer.getInteger("runs", 500);
        int from = Integer.getInteger("from", 0);
        for (int seed = from; seed < from + runs; seed++) {
            if (!new FuzzTest(seed, answered).run(methods)) {
                System.out.println("FuzzTest: seed " + seed + " is not as due");
                System.exit(1);
            }
        }
        int unseen = 0;
        for (Method m : methods) {
            if (answered.getOrDefault(m.getName() + " 0", 0) < 20 && !m.getName().equals("fault")) {
                System.out.println("FuzzTest: too few answers of " + m.getName());
                unseen++;
            }
        }
        if (Boolean.getBoolean("counts")) {
            System.out.println(new java.util.TreeMap<>(answered));
        }
        System.out.println("FuzzTest: " + runs + " runs as the model's");
        if (unseen > 0) {
            System.exit(1);
        }
    }

    private boolean run(List<Method> methods) throws Exception {
        x = new LoafTable();
        model = new Model();
        int calls = 0;
        boolean late = random.nextInt(8) == 0;
        while (calls < 480) {
            if (late && calls > 30) {
                for (int i = 0; i < 10; i++) {
                    if (!same("day", 999)) {
                        return false;
                    }
                }
                late = false;
            }
            int kind = random.nextInt(60);
            if (calls == 0 || kind == 0) {
                String text = random.nextInt(8) == 0 ? scraps() : spoilt(tableText());
                int feeds = feeds(text);
                if (feeds < 0 || !same("table", text.length())) {
                    return false;
                }
                calls += feeds + 1;
            } else if (kind <= 2) {
                String text = random.nextInt(8) == 0 ? scraps() : spoilt(weeksText());
                int feeds = feeds(text);
                if (feeds < 0 || !same("weeks", text.length())) {
                    return false;
                }
                calls += feeds + 1;
            } else {
                Method m = methods.get(random.nextInt(methods.size()));
                if ((m.getName().equals("table") || m.getName().equals("feed")) && random.nextInt(8) > 0) {
                    continue;
                }
                if (m.getName().startsWith("plan") && random.nextInt(10) > 0) {
                    continue;
                }
                long[] args = arguments(m);
                if (!same(m.getName(), args)) {
                    return false;
                }
                calls++;
            }
        }
        return true;
    }

    private int feeds(String text) throws Exception {
        int many = 0;
        for (int i = 0; i < text.length(); i += 20) {
            long[] words = new long[5];
            for (int k = 0; k < 20; k++) {
                int sign = i + k < text.length() ? text.charAt(i + k) : 0;
                words[k / 4] = (int) (words[k / 4] << 8 | sign);
            }
            if (!same("feed", words)) {
                return -1;
            }
            many++;
        }
        return many;
    }

    private boolean same(String name, long... args) throws Exception {
        long want = model.call(name, args);
        Object answer = null;
        for (Method m : LoafTable.class.getDeclaredMethods()) {
            if (m.getName().equals(name) && Modifier.isPublic(m.getModifiers())) {
                Object[] boxed = new Object[args.length];
                for (int i = 0; i < args.length; i++) {
                    boxed[i] = m.getParameterTypes()[i] == long.class ? (Object) args[i] : (Object) (int) args[i];
                }
                answer = m.invoke(x, boxed);
            }
        }
        long got = answer instanceof Boolean ? ((Boolean) answer ? 1 : 0) : ((Number) answer).longValue();
        answered.merge(name + " " + model.status, 1, Integer::sum);
        log = name + java.util.Arrays.toString(args);
        boolean good = got == want && x.status() == model.status && x.top() == model.top && x.bottom() == model.bottom
            && x.fault(0) == model.fault && x.fault(1) == model.faultPlace;
        if (good) {
            good = sameState();
        }
        if (!good) {
            System.out.println(log + " answered " + got + " status " + x.status() + " " + x.top() + "/" + x.bottom()
                + " fault " + x.fault(0) + " " + x.fault(1) + ", due is " + want + " status " + model.status + " "
                + model.top + "/" + model.bottom + " fault " + model.fault + " " + model.faultPlace);
        }
        return good;
    }

    /** What is told and of all guests, asked of both, so that both have the same STATUS behind it. */
    private boolean sameState() {
        boolean good = true;
        for (int what = 0; what <= 10; what++) {
            good &= x.told(what) == model.call("told", new long[] {what});
        }
        for (int who = 0; who < model.w.people.size(); who++) {
            for (int what = 0; what <= 7; what++) {
                good &= x.guest(who, what) == model.call("guest", new long[] {who, what});
            }
        }
        good &= x.status() == model.status;
        if (!good) {
            System.out.println("the table is not as the model's behind it");
        }
        return good;
    }

    private long[] arguments(Method m) {
        long[] args = new long[m.getParameterCount()];
        int guests = model.w.people.size();
        for (int i = 0; i < args.length; i++) {
            args[i] = random.nextInt(25) == 0 ? odd() : usual(m.getName(), i, guests);
        }
        return args;
    }

    private long odd() {
        long[] some = {-1, -2, 7, 8, 10, 20, 21, 32, 60, 61, 99, 100, 999, 1000, 9999, 10000, Integer.MAX_VALUE, Integer.MIN_VALUE};
        return some[random.nextInt(some.length)];
    }

    private long usual(String name, int place, int guests) {
        int guest = guests == 0 ? 0 : random.nextInt(guests);
        switch (name) {
            case "tray":
                return place == 0 ? random.nextInt(4) : place == 1 ? random.nextInt(4) : random.nextInt(50);
            case "write":
                return place == 0 ? random.nextInt(4) : place == 1 ? random.nextInt(10)
                    : random.nextInt(3) > 0 ? random.nextInt(8) : random.nextLong();
            case "read":
                return place == 0 ? random.nextInt(4) : random.nextInt(10);
            case "pour":
                return place == 0 || place == 2 ? random.nextInt(4) : random.nextInt(8);
            case "feed":
                return random.nextInt();
            case "table":
            case "weeks":
                return random.nextInt(40);
            case "fault":
                return random.nextInt(3);
            case "told":
                return random.nextInt(11);
            case "guest":
                return place == 0 ? guest : random.nextInt(8);
            case "day":
                return random.nextInt(30) == 0 ? 990 + random.nextInt(10) : random.nextInt(6);
            case "bake":
                return 1 + random.nextInt(random.nextBoolean() ? 8 : 60);
            case "sit":
                return place == 3 ? random.nextInt(3) : random.nextInt(21);
            case "sway":
                return place == 0 ? guest : random.nextInt(21);
            case "rule":
                return place == 0 ? 1 + random.nextInt(3) : random.nextInt(8);
            case "thereIn":
            case "slicesIn":
            case "least":
                return random.nextInt(21);
            case "guestIn":
                return place == 0 ? guest : place == 1 ? random.nextInt(100) : random.nextInt(2);
            case "plan":
            case "planAt":
                return place == 0 ? 1 + random.nextInt(random.nextInt(10) == 0 ? 5 : 3) : random.nextInt(4);
            case "seen":
            case "seenAs":
            case "ask":
                return place == 0 ? guest : place == 1 ? random.nextInt(4) : place == 2 ? random.nextInt(3) : random.nextInt(2);
            case "chance":
                return random.nextInt(7);
            case "stale":
                return random.nextInt(13);
            case "game":
            case "moveOf":
                return place < 2 ? guest : random.nextInt(10) == 0 ? 3 : random.nextInt(3);
            case "copyWishes":
                return random.nextInt(4);
            case "live":
                return random.nextInt(10000);
            case "lived":
                return random.nextInt(5);
            case "mean":
                return place == 0 ? random.nextInt(10000) : 1 + random.nextInt(20);
            default:
                return guest;
        }
    }

    private String blanks() {
        return random.nextInt(6) == 0 ? "\n " : " ";
    }

    private String tableText() {
        StringBuilder text = new StringBuilder();
        String[] settings = {"odds", "resolve", "press", "loaf", "slices"};
        int[] most = {16, 9, 2, 12, 4};
        int guests = random.nextInt(8);
        boolean[] done = new boolean[8];
        for (int i = 0; i < 5; i++) {
            if (random.nextBoolean()) {
                text.append(settings[i]).append(blanks()).append((i == 0 || i == 4 ? 0 : 1) + random.nextInt(most[i])).append(';');
            }
        }
        for (int i = 0; i < guests; i++) {
            String way = random.nextInt(3) == 0 ? " stays" : random.nextInt(3) == 0 ? " end" : "";
            text.append("guest ").append(NAMES[i]).append(" wish ").append(random.nextInt(12)).append(" bears ")
                .append(random.nextInt(random.nextBoolean() ? 5 : 21)).append(blanks()).append("dear ")
                .append(random.nextInt(21)).append(way).append(random.nextInt(6) == 0 ? " ;" : ";");
            int who = random.nextInt(i + 1);
            int whom = random.nextInt(i + 1);
            if (who != whom && !done[who]) {
                text.append("butter ").append(NAMES[who]).append(' ').append(NAMES[whom]).append(';');
                done[who] = true;
            }
        }
        for (int i = 0; i < guests; i++) {
            int whom = random.nextInt(guests);
            if (whom != i && !done[i] && random.nextInt(3) > 0) {
                text.append("butter ").append(NAMES[i]).append(' ').append(NAMES[whom]).append(';');
            }
        }
        return text.toString();
    }

    private String weeksText() {
        StringBuilder text = new StringBuilder();
        int open = 0;
        int named = 0;
        for (Model.Person p : model.w.people) {
            named += p.name.isEmpty() ? 0 : 1;
        }
        int steps = random.nextInt(random.nextInt(10) == 0 ? 40 : 25);
        for (int i = 0; i < steps && text.length() < 260; i++) {
            String who = named == 0 ? "a" : NAMES[random.nextInt(named)];
            String whom = named == 0 ? "b" : NAMES[random.nextInt(named)];
            switch (random.nextInt(random.nextInt(4) == 0 ? 12 : 11)) {
                case 0:
                    text.append("day ").append(1 + random.nextInt(20)).append(';');
                    break;
                case 1:
                    text.append("cut ").append(who).append(';');
                    break;
                case 2:
                    text.append(who.equals(whom) ? "any;" : "butter " + who + " " + whom + ";");
                    break;
                case 3:
                    text.append("soup ").append(who).append(';');
                    break;
                case 4:
                    text.append("bake ").append(1 + random.nextInt(9)).append(';');
                    break;
                case 5:
                case 6:
                    text.append("any").append(random.nextInt(8) == 0 ? "\n;" : ";");
                    break;
                case 7:
                    if (open < 3 || random.nextInt(20) == 0) {
                        open++;
                        text.append("when ").append(test(who)).append(';');
                    }
                    break;
                case 8:
                    if (open < 3 || random.nextInt(20) == 0) {
                        open++;
                        text.append("loop ").append(1 + random.nextInt(random.nextInt(3) == 0 ? 99 : 9)).append(';');
                    }
                    break;
                case 9:
                case 10:
                    if (open > 0) {
                        open--;
                        text.append("end;");
                    }
                    break;
                default:
                    text.append("stop;");
            }
        }
        for (; open > 0; open--) {
            text.append("end;");
        }
        return text.toString();
    }

    private String test(String who) {
        String sign = " " + "<>=".charAt(random.nextInt(3)) + " ";
        switch (random.nextInt(4)) {
            case 0:
                return "there " + who;
            case 1:
                return "hungry " + who;
            case 2:
                return "bread" + sign + random.nextInt(10);
            default:
                return "wish " + who + sign + random.nextInt(10);
        }
    }

    private String spoilt(String text) {
        if (text.isEmpty() || random.nextInt(4) > 0) {
            return text;
        }
        int at = random.nextInt(text.length());
        switch (random.nextInt(4)) {
            case 0:
                return text.substring(0, at);
            case 1:
                return text.substring(0, at) + text.substring(at + 1);
            case 2:
                return text.substring(0, at) + SCRAPS[random.nextInt(SCRAPS.length)] + text.substring(at);
            default:
                return text.substring(0, at) + " " + SCRAPS[random.nextInt(SCRAPS.length)] + " " + text.substring(at);
        }
    }

    private String scraps() {
        StringBuilder text = new StringBuilder();
        for (int i = random.nextInt(12); i > 0; i--) {
            text.append(SCRAPS[random.nextInt(SCRAPS.length)]).append(random.nextInt(3) > 0 ? " " : "");
        }
        return text.toString();
    }
}
