import java.math.BigInteger;
import java.util.ArrayList;
import java.util.Arrays;
import java.util.HashSet;
import java.util.LinkedHashMap;
import java.util.List;
import java.util.Map;
import java.util.Set;
import java.util.TreeMap;
import java.util.regex.Matcher;
import java.util.regex.Pattern;

/**
 * The document told a second time, in another way than the class and without a thought of speed: rows of
 * people, regular expressions, trees of steps, every row of a plan. FuzzTest holds the two against each other.
 */
final class Model {
    static final Set<String> KEYWORDS = new HashSet<>(Arrays.asList(("odds resolve press loaf slices guest wish bears "
            + "dear stays end butter day cut soup bake any when there hungry bread loop stop").split(" ")));

    static final class Person {
        String name = "";
        int wish;
        int bears;
        int dear;
        String way = "goes";
        int hunger;
        boolean there = true;
        int passesTo = -1;

        Person copy() {
            Person p = new Person();
            p.name = name;
            p.wish = wish;
            p.bears = bears;
            p.dear = dear;
            p.way = way;
            p.hunger = hunger;
            p.there = there;
            p.passesTo = passesTo;
            return p;
        }

        boolean starved() {
            return there && hunger > bears;
        }
    }

    static final class World {
        List<Person> people = new ArrayList<>();
        Map<String, Integer> settings = new TreeMap<>();
        int day;
        int cuts;
        List<Step> weeks;

        World() {
            settings.put("odds", 4);
            settings.put("resolve", 5);
            settings.put("press", 2);
            settings.put("loaf", 8);
            settings.put("slices", 0);
        }

        World copy() {
            World w = new World();
            for (Person p : people) {
                w.people.add(p.copy());
            }
            w.settings.putAll(settings);
            w.day = day;
            w.cuts = cuts;
            w.weeks = weeks;
            return w;
        }

        int set(String key) {
            return settings.get(key);
        }

        int here() {
            return (int) people.stream().filter(p -> p.there).count();
        }

        boolean anyStarved() {
            return people.stream().anyMatch(Person::starved);
        }

        int named(String name) {
            for (int i = 0; i < people.size(); i++) {
                if (people.get(i).name.equals(name)) {
                    return i;
                }
            }
            return -1;
        }

        int bits(java.util.function.Predicate<Person> of) {
            int set = 0;
            for (int i = people.size() - 1; i >= 0; i--) {
                set = set * 2 + (of.test(people.get(i)) ? 1 : 0);
            }
            return set;
        }

        void cut(int who) {
            Person p = people.get(who);
            int loaf = set("loaf");
            cuts++;
            settings.put("slices", p.way.equals("end") ? loaf - loaf / 2 : loaf);
            if (p.way.equals("stays")) {
                p.wish = 0;
            } else {
                p.there = false;
            }
        }

        int wouldCut() {
            if (set("slices") != 0) {
                return -1;
            }
            for (int wish = 20; wish >= set("resolve"); wish--) {
                for (int i = 0; i < people.size(); i++) {
                    if (people.get(i).there && people.get(i).wish == wish) {
                        return i;
                    }
                }
            }
            return -1;
        }

        void oneDay(int cutter) {
            if (cutter >= 0) {
                cut(cutter);
            }
            day++;
            for (Person p : people) {
                if (p.there) {
                    if (set("slices") > 0) {
                        settings.merge("slices", -1, Integer::sum);
                        p.hunger = 0;
                    } else if (p.hunger < 99) {
                        p.hunger++;
                    }
                }
            }
            for (int i = 0; i < people.size(); i++) {
                Person p = people.get(i);
                if (!p.there) {
                    continue;
                }
                int pressing = 0;
                for (Person q : people) {
                    if (q != p && q.there && q.passesTo == i) {
                        pressing++;
                    }
                }
                if (p.hunger > 0) {
                    p.wish++;
                }
                if (pressing >= set("press")) {
                    p.wish++;
                }
                if (p.wish > 20) {
                    p.wish = 20;
                }
            }
        }

        World in(int days) {
            World w = copy();
            for (int i = 0; i < days; i++) {
                w.oneDay(w.wouldCut());
            }
            return w;
        }
    }

    static final class Step {
        String word;
        String test;
        int who = -1;
        int whom = -1;
        String sign;
        int much;
        List<Step> within = new ArrayList<>();
    }

    static final class Token {
        String text;
        int place;
        String kind;
    }

    static final class Fault extends Exception {
        private static final long serialVersionUID = 1;
        final int kind;
        final int place;

        Fault(int kind, int place) {
            this.kind = kind;
            this.place = place;
        }
    }

    private static final class Status extends Exception {
        private static final long serialVersionUID = 1;
        final int status;

        Status(int status) {
            this.status = status;
        }
    }

    private static final class Text {
        final List<Token> tokens = new ArrayList<>();
        int at;

        Text(String text) {
            Matcher m = Pattern.compile("[a-z]+|[0-9]+|[;<>=]|[ \n]+|.", Pattern.DOTALL).matcher(text);
            while (m.find()) {
                Token t = new Token();
                t.text = m.group();
                t.place = m.start();
                if (t.text.matches("[ \n]+")) {
                    continue;
                }
                if (KEYWORDS.contains(t.text)) {
                    t.kind = "key";
                } else if (t.text.matches("[a-z]{1,8}")) {
                    t.kind = "name";
                } else if (t.text.matches("[a-z]+")) {
                    t.kind = "long";
                } else if (t.text.matches("[0-9]{1,4}")) {
                    t.kind = "number";
                } else if (t.text.matches("[;<>=]")) {
                    t.kind = "sign";
                } else {
                    t.kind = "none";
                }
                tokens.add(t);
            }
            Token end = new Token();
            end.text = "";
            end.place = text.length();
            end.kind = "end";
            tokens.add(end);
        }

        Token look() throws Fault {
            Token t = tokens.get(at);
            if (t.kind.equals("none")) {
                throw new Fault(1, t.place);
            }
            return t;
        }

        boolean ended() throws Fault {
            return look().kind.equals("end");
        }

        Token kind(String kind) throws Fault {
            Token t = look();
            if (!t.kind.equals(kind)) {
                throw new Fault(2, t.place);
            }
            at++;
            return t;
        }

        Token exactly(String... texts) throws Fault {
            Token t = look();
            if (t.kind.equals("end") || !Arrays.asList(texts).contains(t.text)) {
                throw new Fault(2, t.place);
            }
            at++;
            return t;
        }

        int number(int low, int high) throws Fault {
            Token t = kind("number");
            int n = Integer.parseInt(t.text);
            if (n < low || n > high) {
                throw new Fault(4, t.place);
            }
            return n;
        }
    }

    int status;
    long top;
    long bottom = 1;
    final long[][] trays = new long[4][];
    final int[] sorts = new int[4];
    String tape = "";
    World w = new World();
    int fault = -1;
    int faultPlace = -1;
    final List<World> marks = new ArrayList<>();
    int[] ofLife;

    private static void must(boolean good, int status) throws Status {
        if (!good) {
            throw new Status(status);
        }
    }

    /** One call by its name; booleans are 1 and 0. */
    long call(String name, long[] a) {
        int[] i = new int[a.length];
        for (int k = 0; k < a.length; k++) {
            i[k] = (int) a[k];
        }
        switch (name) {
            case "status":
                return status;
            case "top":
                return top;
            case "bottom":
                return bottom;
            case "feed":
                return feed(i);
            case "fault":
                return i[0] == 0 ? fault : i[0] == 1 ? faultPlace : -1;
            default:
        }
        boolean truth = Set.of("tray", "write", "pour", "rule", "waits", "chance", "stale", "share", "mean").contains(name);
        try {
            long answer = answer(name, i, a);
            status = 0;
            return answer;
        } catch (Status s) {
            status = s.status;
            return truth ? 0 : -1;
        }
    }

    private int feed(int[] words) {
        if (tape.length() + 20 > 900) {
            return -1;
        }
        StringBuilder b = new StringBuilder(tape);
        for (int word : words) {
            for (int k = 3; k >= 0; k--) {
                b.append((char) (word >>> 8 * k & 255));
            }
        }
        tape = b.toString();
        return tape.length();
    }

    private long answer(String name, int[] i, long[] a) throws Status {
        switch (name) {
            case "tray":
            case "write":
            case "read":
            case "pour":
            case "copyWishes":
                return trayCall(name, i, a);
            case "table":
            case "weeks":
                return text(name, i[0]);
            case "told":
            case "guest":
            case "cutter":
            case "wanted":
                return tell(name, i);
            case "thereIn":
            case "slicesIn":
            case "guestIn":
            case "next":
            case "nextBy":
            case "hangs":
            case "starving":
            case "least":
                return foretell(name, i);
            case "plan":
            case "planAt":
                return plan(name, i);
            case "seen":
            case "seenAs":
            case "ask":
                return seen(name, i);
            case "waits":
            case "chance":
            case "stale":
            case "share":
                return odds(name, i);
            case "game":
            case "moveOf":
                return game(name, i);
            case "live":
            case "lived":
            case "mean":
                return life(name, i);
            case "mark":
                must(marks.size() < 3, 4);
                marks.add(w.copy());
                return marks.size();
            case "undo":
                must(!marks.isEmpty(), 6);
                w = marks.remove(marks.size() - 1);
                return marks.size();
            default:
                return act(name, i);
        }
    }

    private static long narrow(int sort, long v) {
        return BigInteger.valueOf(v).add(BigInteger.ONE.shiftLeft((8 << sort) - 1))
                .mod(BigInteger.ONE.shiftLeft(8 << sort)).subtract(BigInteger.ONE.shiftLeft((8 << sort) - 1)).longValue();
    }

    private long trayCall(String name, int[] i, long[] a) throws Status {
        must(i[0] >= 0 && i[0] < 4, 1);
        long[] row = trays[i[0]];
        switch (name) {
            case "tray":
                must(i[1] >= 0 && i[1] < 4 && i[2] >= 0 && i[2] <= 60, 1);
                trays[i[0]] = new long[i[2]];
                sorts[i[0]] = i[1];
                return 1;
            case "write":
            case "read":
                must(row != null, 2);
                must(i[1] >= 0 && i[1] < row.length, 3);
                if (name.equals("read")) {
                    return row[i[1]];
                }
                row[i[1]] = narrow(sorts[i[0]], a[2]);
                return 1;
            case "pour":
                must(i[2] >= 0 && i[2] < 4 && i[1] >= 0 && i[3] >= 0 && i[4] >= 0, 1);
                must(row != null && trays[i[2]] != null, 2);
                must(sorts[i[0]] == sorts[i[2]], 8);
                must(a[1] + a[4] <= row.length && a[3] + a[4] <= trays[i[2]].length, 3);
                long[] as = row.clone();
                for (int k = 0; k < i[4]; k++) {
                    trays[i[2]][i[3] + k] = as[i[1] + k];
                }
                return 1;
            default:
                must(row != null, 2);
                must(row.length >= w.people.size(), 3);
                for (int k = 0; k < w.people.size(); k++) {
                    row[k] = w.people.get(k).wish;
                }
                return w.people.size();
        }
    }

    private long text(String name, int n) throws Status {
        must(n >= 0 && n <= tape.length() && (name.equals("table") || n <= 300), 1);
        String text = tape.substring(0, n);
        tape = "";
        try {
            long answer;
            if (name.equals("table")) {
                w = tableOf(new Text(text));
                answer = w.people.size();
            } else {
                int[] count = new int[1];
                List<Step> steps = stepsOf(new Text(text), 0, count);
                w.weeks = steps;
                answer = count[0];
            }
            fault = 0;
            faultPlace = -1;
            return answer;
        } catch (Fault f) {
            fault = f.kind;
            faultPlace = f.place;
            throw new Status(9);
        }
    }

    private World tableOf(Text t) throws Fault {
        World fresh = new World();
        Map<String, int[]> ranges = new LinkedHashMap<>();
        ranges.put("odds", new int[] {0, 16});
        ranges.put("resolve", new int[] {1, 20});
        ranges.put("press", new int[] {1, 6});
        ranges.put("loaf", new int[] {1, 60});
        ranges.put("slices", new int[] {0, 60});
        Set<String> had = new HashSet<>();
        while (!t.ended()) {
            Token word = t.look();
            if (ranges.containsKey(word.text)) {
                if (!had.add(word.text)) {
                    throw new Fault(5, word.place);
                }
                t.at++;
                fresh.settings.put(word.text, t.number(ranges.get(word.text)[0], ranges.get(word.text)[1]));
            } else if (word.text.equals("guest")) {
                if (fresh.people.size() == 7) {
                    throw new Fault(6, word.place);
                }
                t.at++;
                Token name = t.kind("name");
                if (fresh.named(name.text) >= 0) {
                    throw new Fault(3, name.place);
                }
                Person p = new Person();
                p.name = name.text;
                t.exactly("wish");
                p.wish = t.number(0, 20);
                t.exactly("bears");
                p.bears = t.number(0, 20);
                t.exactly("dear");
                p.dear = t.number(0, 20);
                if (t.look().text.equals("stays") || t.look().text.equals("end")) {
                    p.way = t.look().text;
                    t.at++;
                }
                fresh.people.add(p);
            } else if (word.text.equals("butter")) {
                t.at++;
                int one = guestIn(fresh, t);
                if (fresh.people.get(one).passesTo >= 0) {
                    throw new Fault(5, t.tokens.get(t.at - 1).place);
                }
                int two = guestIn(fresh, t);
                if (one == two) {
                    throw new Fault(5, t.tokens.get(t.at - 1).place);
                }
                fresh.people.get(one).passesTo = two;
            } else {
                throw new Fault(2, word.place);
            }
            t.exactly(";");
        }
        return fresh;
    }

    private static int guestIn(World world, Text t) throws Fault {
        Token name = t.kind("name");
        int who = world.named(name.text);
        if (who < 0) {
            throw new Fault(3, name.place);
        }
        return who;
    }

    private List<Step> stepsOf(Text t, int depth, int[] count) throws Fault {
        List<Step> steps = new ArrayList<>();
        while (true) {
            Token word = t.look();
            if (depth > 0 && word.text.equals("end")) {
                return steps;
            }
            if (t.ended()) {
                if (depth > 0) {
                    throw new Fault(2, word.place);
                }
                return steps;
            }
            t.exactly("day", "cut", "butter", "soup", "bake", "any", "when", "loop", "stop");
            if (++count[0] > 30) {
                throw new Fault(6, word.place);
            }
            boolean block = word.text.equals("when") || word.text.equals("loop");
            if (block && depth == 3) {
                throw new Fault(7, word.place);
            }
            Step s = new Step();
            s.word = word.text;
            steps.add(s);
            rest(t, s);
            t.exactly(";");
            if (block) {
                s.within = stepsOf(t, depth + 1, count);
                t.exactly("end");
                t.exactly(";");
            }
        }
    }

    private void rest(Text t, Step s) throws Fault {
        switch (s.word) {
            case "day":
                s.much = t.number(1, 20);
                break;
            case "bake":
                s.much = t.number(1, 60);
                break;
            case "loop":
                s.much = t.number(1, 99);
                break;
            case "cut":
            case "soup":
                s.who = guestIn(w, t);
                break;
            case "butter":
                s.who = guestIn(w, t);
                s.whom = guestIn(w, t);
                if (s.who == s.whom) {
                    throw new Fault(5, t.tokens.get(t.at - 1).place);
                }
                break;
            case "when":
                s.test = t.exactly("there", "hungry", "bread", "wish").text;
                if (!s.test.equals("bread")) {
                    s.who = guestIn(w, t);
                }
                if (s.test.equals("bread") || s.test.equals("wish")) {
                    s.sign = t.exactly("<", ">", "=").text;
                    s.much = t.number(0, s.test.equals("bread") ? 60 : 20);
                }
                break;
            default:
        }
    }

    private Person person(int who) throws Status {
        must(who >= 0 && who < w.people.size(), 1);
        return w.people.get(who);
    }

    private long tell(String name, int[] i) throws Status {
        if (name.equals("cutter")) {
            must(w.wouldCut() >= 0, 6);
            return w.wouldCut();
        }
        if (name.equals("wanted")) {
            int best = -1;
            long most = 0;
            for (int k = 0; k < w.people.size(); k++) {
                int who = k;
                long many = w.people.stream().filter(p -> p.there && p.passesTo == who).count();
                if (w.people.get(k).there && many > most) {
                    most = many;
                    best = k;
                }
            }
            must(best >= 0, 6);
            return best;
        }
        if (name.equals("told")) {
            must(i[0] >= 0 && i[0] <= 10, 1);
            String[] keys = {"odds", "resolve", "press", "loaf", "slices"};
            if (i[0] >= 1 && i[0] <= 5) {
                return w.set(keys[i[0] - 1]);
            }
            switch (i[0]) {
                case 0:
                    return w.people.size();
                case 6:
                    return w.day;
                case 7:
                    return w.cuts;
                case 8:
                    return w.bits(p -> p.there);
                case 9:
                    return w.bits(p -> p.there && p.hunger > 0);
                default:
                    return w.bits(Person::starved);
            }
        }
        Person p = person(i[0]);
        must(i[1] >= 0 && i[1] <= 7, 1);
        switch (i[1]) {
            case 0:
                return p.wish;
            case 1:
                return p.bears;
            case 2:
                return p.dear;
            case 3:
                return Arrays.asList("goes", "stays", "end").indexOf(p.way);
            case 4:
                return p.hunger;
            case 5:
                return p.there ? 1 : 0;
            case 6:
                must(p.passesTo >= 0, 6);
                return p.passesTo;
            default:
                return w.bits(q -> q.there && q.passesTo == i[0]);
        }
    }

    private long act(String name, int[] i) throws Status {
        switch (name) {
            case "day":
                must(i[0] >= 1 && i[0] <= 999, 1);
                must(w.day + i[0] <= 9999, 7);
                w = w.in(i[0]);
                return w.here();
            case "cut":
                must(person(i[0]).there && w.set("slices") == 0, 7);
                w.cut(i[0]);
                return w.set("slices");
            case "butter": {
                Person p = person(i[0]);
                person(i[1]);
                must(i[0] != i[1], 1);
                must(p.passesTo != i[1], 7);
                int was = p.passesTo;
                p.passesTo = i[1];
                return was < 0 ? w.people.size() : was;
            }
            case "soup": {
                Person p = person(i[0]);
                must(p.there && p.hunger > 0, 7);
                int was = p.hunger;
                p.hunger = 0;
                return was;
            }
            case "bake":
                must(i[0] >= 1 && i[0] <= 60, 1);
                return w.settings.put("loaf", i[0]);
            case "sway": {
                Person p = person(i[0]);
                must(i[1] >= 0 && i[1] <= 20, 1);
                must(p.there, 7);
                int was = p.wish;
                p.wish = i[1];
                return was;
            }
            case "sit": {
                for (int k = 0; k < 3; k++) {
                    must(i[k] >= 0 && i[k] <= 20, 1);
                }
                must(i[3] >= 0 && i[3] <= 2, 1);
                must(w.people.size() < 7, 4);
                Person p = new Person();
                p.wish = i[0];
                p.bears = i[1];
                p.dear = i[2];
                p.way = Arrays.asList("goes", "stays", "end").get(i[3]);
                w.people.add(p);
                return w.people.size() - 1;
            }
            case "come": {
                Person p = person(i[0]);
                must(!p.there, 7);
                p.there = true;
                p.wish = 0;
                p.hunger = 0;
                return w.here();
            }
            case "rule": {
                must(i[0] >= 1 && i[0] <= 3, 1);
                int[][] ranges = {{0, 16}, {1, 20}, {1, 6}};
                must(i[1] >= ranges[i[0] - 1][0] && i[1] <= ranges[i[0] - 1][1], 1);
                w.settings.put(Arrays.asList("odds", "resolve", "press").get(i[0] - 1), i[1]);
                return 1;
            }
            default:
                throw new IllegalStateException(name);
        }
    }

    private static int[] nextOf(World world) {
        World now = world.copy();
        for (int d = 1; d <= 99; d++) {
            int who = now.wouldCut();
            World then = now.in(1);
            if (then.cuts > now.cuts) {
                return new int[] {d, who};
            }
            now = then;
        }
        return new int[] {-1, -1};
    }

    private long foretell(String name, int[] i) throws Status {
        switch (name) {
            case "thereIn":
                must(i[0] >= 0 && i[0] <= 99, 1);
                return w.in(i[0]).bits(p -> p.there);
            case "slicesIn":
                must(i[0] >= 0 && i[0] <= 99, 1);
                return w.in(i[0]).set("slices");
            case "guestIn":
                person(i[0]);
                must(i[1] >= 0 && i[1] <= 99 && (i[2] == 0 || i[2] == 1), 1);
                Person p = w.in(i[1]).people.get(i[0]);
                return i[2] == 0 ? p.wish : p.hunger;
            case "next":
            case "nextBy":
                must(nextOf(w)[0] > 0, 6);
                return nextOf(w)[name.equals("next") ? 0 : 1];
            case "hangs": {
                int set = 0;
                for (int k = 0; k < w.people.size(); k++) {
                    World other = w.copy();
                    other.people.get(k).there = false;
                    if (w.people.get(k).there && !Arrays.equals(nextOf(w), nextOf(other))) {
                        set += 1 << k;
                    }
                }
                return set;
            }
            case "starving": {
                World then = w.copy();
                for (int d = 0; d < 100; d++, then = then.in(1)) {
                    if (then.anyStarved()) {
                        return d;
                    }
                }
                throw new Status(6);
            }
            default:
                must(i[0] >= 1 && i[0] <= 20, 1);
                for (int loaf = 1; loaf <= 60; loaf++) {
                    World then = w.copy();
                    then.settings.put("loaf", loaf);
                    boolean good = true;
                    for (int d = 0; d < i[0] && good; d++) {
                        then = then.in(1);
                        good = !then.anyStarved();
                    }
                    if (good) {
                        return loaf;
                    }
                }
                throw new Status(6);
        }
    }

    /** Every row, as a number by the base of one more than there are guests, its first day the highest digit. */
    private long plan(String name, int[] i) throws Status {
        int days = i[0];
        must(days >= 1 && days <= 5, 1);
        must(name.equals("plan") || i[1] >= 0 && i[1] < days, 1);
        int base = w.people.size() + 1;
        int rows = (int) Math.pow(base, days);
        int best = -1;
        int[] bestRow = null;
        for (int r = 0; r < rows; r++) {
            int[] row = new int[days];
            int rest = r;
            for (int d = days - 1; d >= 0; d--) {
                row[d] = rest % base - 1;
                rest /= base;
            }
            int cost = costOf(row);
            if (cost >= 0 && (best < 0 || cost < best)) {
                best = cost;
                bestRow = row;
            }
        }
        must(best >= 0, 6);
        if (name.equals("plan")) {
            return best;
        }
        return bestRow[i[1]] < 0 ? w.people.size() : bestRow[i[1]];
    }

    private int costOf(int[] row) {
        World then = w.copy();
        int cost = 0;
        for (int who : row) {
            if (who >= 0) {
                Person p = then.people.get(who);
                if (!p.there || then.set("slices") > 0) {
                    return -1;
                }
                cost += p.way.equals("stays") ? 0 : p.dear;
            }
            then.oneDay(who);
            if (then.anyStarved()) {
                return -1;
            }
        }
        return cost;
    }

    private long seen(String name, int[] i) throws Status {
        person(i[0]);
        must(i[1] >= 0 && i[1] < 4 && i[2] >= 0 && i[2] <= 20, 1);
        must(!name.equals("seenAs") || i[3] == 0 || i[3] == 1, 1);
        long[] row = trays[i[1]];
        must(row != null, 2);
        must(row.length >= 2 * i[2], 3);
        for (int k = 0; k < 2 * i[2]; k++) {
            must(row[k] >= 0 && row[k] <= (k % 2 == 0 ? 20 : 7), 5);
        }
        List<int[]> couples = new ArrayList<>();
        for (int resolve = 1; resolve <= 9; resolve++) {
            for (int wish = 0; wish <= 9; wish++) {
                World other = w.copy();
                other.settings.put("resolve", resolve);
                other.people.get(i[0]).wish = wish;
                boolean good = true;
                for (int k = 0; k < i[2] && good; k++) {
                    good = other.in((int) row[2 * k]).here() == row[2 * k + 1];
                }
                if (good) {
                    couples.add(new int[] {resolve, wish});
                }
            }
        }
        if (name.equals("seen")) {
            return couples.size();
        }
        if (name.equals("seenAs")) {
            must(!couples.isEmpty(), 6);
            return couples.get(0)[i[3]];
        }
        must(couples.size() >= 2, 6);
        int bestDay = -1;
        int fewest = 1000;
        for (int d = 0; d <= 20; d++) {
            Map<Integer, Integer> groups = new TreeMap<>();
            for (int[] couple : couples) {
                World other = w.copy();
                other.settings.put("resolve", couple[0]);
                other.people.get(i[0]).wish = couple[1];
                groups.merge(other.in(d).here(), 1, Integer::sum);
            }
            int most = groups.values().stream().max(Integer::compare).get();
            if (most < fewest) {
                fewest = most;
                bestDay = d;
            }
        }
        return bestDay;
    }

    private long fraction(BigInteger above, BigInteger below) {
        BigInteger divisor = above.gcd(below);
        top = above.divide(divisor).longValueExact();
        bottom = below.divide(divisor).longValueExact();
        return 1;
    }

    private long odds(String name, int[] i) throws Status {
        switch (name) {
            case "waits":
                person(i[0]);
                must(i[0] != i[1], 1);
                return fraction(BigInteger.ONE, BigInteger.valueOf(1 + person(i[1]).dear));
            case "chance": {
                must(i[0] >= 0 && i[0] <= 6 && i[1] >= 0 && i[1] <= 6, 1);
                int all = (int) Math.pow(6, i[0]);
                int good = 0;
                for (int r = 0; r < all; r++) {
                    int told = 0;
                    for (int rest = r, k = 0; k < i[0]; k++, rest /= 6) {
                        told += rest % 6 == 0 ? 1 : 0;
                    }
                    good += told >= i[1] ? 1 : 0;
                }
                return fraction(BigInteger.valueOf(good), BigInteger.valueOf(all));
            }
            case "stale":
                must(i[0] >= 0 && i[0] <= 12, 1);
                return fraction(BigInteger.valueOf(16 - w.set("odds")).pow(i[0]), BigInteger.valueOf(16).pow(i[0]));
            default:
                Person p = person(i[0]);
                int all = w.people.stream().filter(q -> q.there).mapToInt(q -> q.dear).sum();
                must(all > 0, 6);
                must(p.there, 7);
                return fraction(BigInteger.valueOf(p.dear), BigInteger.valueOf(all));
        }
    }

    private long game(String name, int[] i) throws Status {
        person(i[0]);
        person(i[1]);
        must(i[0] != i[1], 1);
        must(i[2] >= (name.equals("game") ? 0 : 1) && i[2] <= 3, 1);
        int value = play(w, i[0], i[1], i[2], true);
        if (name.equals("game")) {
            return value;
        }
        for (int k = 0; k < w.people.size(); k++) {
            if (k != i[0] && w.people.get(k).there) {
                World other = w.copy();
                other.people.get(k).passesTo = i[0];
                if (play(other, i[0], i[1], i[2] - 1, false) == value) {
                    return k;
                }
            }
        }
        throw new Status(6);
    }

    private static int play(World world, int first, int second, int turns, boolean firsts) {
        if (turns == 0) {
            World then = world.in(10);
            return (then.people.get(first).there ? 0 : 1) - (then.people.get(second).there ? 0 : 1);
        }
        List<Integer> values = new ArrayList<>();
        values.add(play(world, first, second, turns - 1, !firsts));
        int whom = firsts ? first : second;
        for (int k = 0; k < world.people.size(); k++) {
            if (k != whom && world.people.get(k).there) {
                World other = world.copy();
                other.people.get(k).passesTo = whom;
                values.add(play(other, first, second, turns - 1, !firsts));
            }
        }
        return firsts ? values.stream().max(Integer::compare).get() : values.stream().min(Integer::compare).get();
    }

    private static final class Stopped extends Exception {
        private static final long serialVersionUID = 1;
    }

    private long seedState;
    private int steps;
    private int missed;
    private boolean left;

    private long life(String name, int[] i) throws Status {
        if (name.equals("lived")) {
            must(i[0] >= 0 && i[0] <= 4, 1);
            must(ofLife != null, 6);
            return ofLife[i[0]];
        }
        must(i[0] >= 0 && i[0] <= 9999, 1);
        if (name.equals("live")) {
            must(w.weeks != null, 6);
            World before = w.copy();
            run(i[0]);
            int gone = 0;
            for (int k = 0; k < w.people.size(); k++) {
                gone += before.people.get(k).there && !w.people.get(k).there ? 1 : 0;
            }
            ofLife = new int[] {missed, w.day - before.day, w.cuts - before.cuts, gone, left ? 1 : 0};
            return steps;
        }
        must(i[1] >= 1 && i[1] <= 20 && i[0] + i[1] <= 10000, 1);
        must(w.weeks != null, 6);
        World before = w;
        int sum = 0;
        for (int k = 0; k < i[1]; k++) {
            w = before.copy();
            run(i[0] + k);
            sum += w.here();
        }
        w = before;
        return fraction(BigInteger.valueOf(sum), BigInteger.valueOf(i[1]));
    }

    private void run(int seed) {
        seedState = seed;
        steps = 0;
        missed = 0;
        left = false;
        try {
            all(w.weeks);
        } catch (Stopped s) {
            return;
        }
    }

    private void all(List<Step> list) throws Stopped {
        for (Step s : list) {
            if (steps == 300) {
                left = true;
                throw new Stopped();
            }
            steps++;
            if (s.word.equals("stop")) {
                throw new Stopped();
            }
            if (s.word.equals("loop")) {
                for (int k = 0; k < s.much; k++) {
                    all(s.within);
                }
            } else if (s.word.equals("when")) {
                if (holds(s)) {
                    all(s.within);
                }
            } else if (!does(s)) {
                missed++;
            }
        }
    }

    private boolean holds(Step s) {
        Person p = s.who < 0 ? null : w.people.get(s.who);
        if (s.test.equals("there")) {
            return p.there;
        }
        if (s.test.equals("hungry")) {
            return p.there && p.hunger > 0;
        }
        int one = Integer.compare(s.test.equals("bread") ? w.set("slices") : p.wish, s.much);
        return "<=>".charAt(one + 1) == s.sign.charAt(0);
    }

    private int draw(int n) {
        seedState = (seedState * 3283 + 11511) % 65536;
        return (int) (seedState / 8 % n);
    }

    private boolean does(Step s) {
        try {
            switch (s.word) {
                case "day":
                    act("day", new int[] {s.much});
                    return true;
                case "cut":
                    act("cut", new int[] {s.who});
                    return true;
                case "butter":
                    act("butter", new int[] {s.who, s.whom});
                    return true;
                case "soup":
                    act("soup", new int[] {s.who});
                    return true;
                case "bake":
                    return act("bake", new int[] {s.much}) != s.much;
                default:
                    if (w.people.isEmpty()) {
                        return false;
                    }
                    int who = draw(w.people.size());
                    if (draw(16) < w.set("odds")) {
                        act("sway", new int[] {who, w.people.get(who).wish + 1});
                    } else {
                        act("day", new int[] {1});
                    }
                    return true;
            }
        } catch (Status cannotBe) {
            return false;
        }
    }
}
