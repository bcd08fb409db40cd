/**
 * A long table at which the loaf is cut by whoever is leaving. The words in capitals are those of
 * the document (its "Terms"); README.md says how to use the class.
 */
public final class LoafTable {
    public static final int NONE = -1;

    private static final int FINE = 0;
    private static final int WRONG_NUMBER = 1;
    private static final int TRAY_MISSING = 2;
    private static final int NO_PLACE = 3;
    private static final int ONE_TOO_MANY = 4;
    private static final int WRONG_IN_TRAY = 5;
    private static final int NONE_SUCH = 6;
    private static final int CANNOT_BE = 7;
    private static final int UNLIKE_SORTS = 8;
    private static final int FAULTY = 9;

    private static final int GOES = 0;
    private static final int STAYS_ON = 1;
    private static final int CUTS_END = 2;

    private static final int MOST_TRAYS = 4;
    private static final int MOST_IN_TRAY = 60;
    private static final int MOST_TAPE = 900;
    private static final int MOST_WEEKS_TEXT = 300;
    private static final int MOST_GUESTS = 7;
    private static final int MOST_ODDS = 16;
    private static final int MOST_WISH = 20;
    private static final int MOST_LOAF = 60;
    private static final int MOST_PRESS = 6;
    private static final int MOST_HUNGER = 99;
    private static final int LAST_DAY = 9999;
    private static final int MOST_AHEAD = 99;
    private static final int MOST_SEEN_DAYS = 20;
    private static final int MOST_TWOS = 20;
    private static final int MOST_PLAN = 5;
    private static final int MOST_TURNS = 3;
    private static final int GAME_DAYS = 10;
    private static final int MOST_STEPS = 30;
    private static final int MOST_NESTED = 3;
    private static final int MOST_LIVED = 300;
    private static final int LAST_SEED = 9999;
    private static final int MOST_MARKS = 3;

    // The kinds of TOKENS: the words in the order of KEYWORDS; a SIGN's kind is its own character.
    private static final int BAD_TOKEN = -1;
    private static final int TEXT_END = 0;
    private static final int ODDS = 1;
    private static final int RESOLVE = 2;
    private static final int PRESS = 3;
    private static final int LOAF = 4;
    private static final int SLICES = 5;
    private static final int GUEST = 6;
    private static final int WISH = 7;
    private static final int BEARS = 8;
    private static final int DEAR = 9;
    private static final int STAYS = 10;
    private static final int END = 11;
    private static final int BUTTER = 12;
    private static final int DAY = 13;
    private static final int CUT = 14;
    private static final int SOUP = 15;
    private static final int BAKE = 16;
    private static final int ANY = 17;
    private static final int WHEN = 18;
    private static final int THERE = 19;
    private static final int HUNGRY = 20;
    private static final int BREAD = 21;
    private static final int LOOP = 22;
    private static final int STOP = 23;
    private static final int NAME = 24;
    private static final int LONG_WORD = 25;
    private static final int NUMBER = 26;
    private static final String KEYWORDS = "odds resolve press loaf slices guest wish bears dear stays end butter day cut soup bake any when there hungry bread loop stop ";

    private int lastStatus;
    private long fractionTop;
    private long fractionBottom;
    private final Tray[] trays;
    private final Tokens tokens;
    private final Table now;
    private final Weeks plot;
    private final TableText tableText;
    private final WeeksText weeksText;
    private final Ahead ahead;
    private final Planner planner;
    private final Sight sight;
    private final Contest contest;
    private final Life life;
    private final int[] ofLife;
    private boolean anyLife;
    private final Table[] markedTables;
    private final Weeks[] markedWeeks;
    private int marks;

    public LoafTable() {
        fractionBottom = 1;
        trays = new Tray[MOST_TRAYS];
        for (int i = 0; i < MOST_TRAYS; i++) {
            trays[i] = new Tray();
        }
        tokens = new Tokens();
        now = new Table();
        plot = new Weeks();
        tableText = new TableText(tokens);
        weeksText = new WeeksText(tokens, now);
        ahead = new Ahead(now);
        planner = new Planner(now);
        sight = new Sight(now);
        contest = new Contest(now);
        life = new Life(now, plot);
        ofLife = new int[5];
        markedTables = new Table[MOST_MARKS];
        markedWeeks = new Weeks[MOST_MARKS];
        for (int i = 0; i < MOST_MARKS; i++) {
            markedTables[i] = new Table();
            markedWeeks[i] = new Weeks();
        }
    }

    public int status() {
        return lastStatus;
    }

    public long top() {
        return fractionTop;
    }

    public long bottom() {
        return fractionBottom;
    }

    // ---- TRAYS

    public boolean tray(int tray, int sort, int many) {
        if (!isTray(tray) || !within(sort, 0, 3) || !within(many, 0, MOST_IN_TRAY)) {
            return refused(WRONG_NUMBER);
        }
        trays[tray].become(sort, many);
        return agreed();
    }

    public boolean write(int tray, int place, long v) {
        int fails = trayFails(tray, place, 1);
        if (fails != FINE) {
            return refused(fails);
        }
        trays[tray].put(place, v);
        return agreed();
    }

    public long read(int tray, int place) {
        int fails = trayFails(tray, place, 1);
        if (fails != FINE) {
            return none(fails);
        }
        lastStatus = FINE;
        return trays[tray].numbers[place];
    }

    public boolean pour(int from, int place, int to, int at, int many) {
        if (!isTray(from) || !isTray(to) || place < 0 || at < 0 || many < 0) {
            return refused(WRONG_NUMBER);
        }
        Tray source = trays[from];
        Tray target = trays[to];
        if (!source.laid || !target.laid) {
            return refused(TRAY_MISSING);
        }
        if (source.sort != target.sort) {
            return refused(UNLIKE_SORTS);
        }
        if (!source.has(place, many) || !target.has(at, many)) {
            return refused(NO_PLACE);
        }
        System.arraycopy(source.numbers, place, target.numbers, at, many);
        return agreed();
    }

    // ---- texts

    public int feed(int a, int b, int c, int d, int e) {
        if (tokens.onTape + 20 > MOST_TAPE) {
            return NONE;
        }
        tokens.append(a);
        tokens.append(b);
        tokens.append(c);
        tokens.append(d);
        tokens.append(e);
        return tokens.onTape;
    }

    public int table(int n) {
        if (!within(n, 0, tokens.onTape)) {
            return none(WRONG_NUMBER);
        }
        tokens.begin(n);
        if (!tableText.isTable()) {
            return none(FAULTY);
        }
        now.copyFrom(tableText.draft);
        plot.forget();
        return given(now.guests);
    }

    public int weeks(int n) {
        if (!within(n, 0, Math.min(tokens.onTape, MOST_WEEKS_TEXT))) {
            return none(WRONG_NUMBER);
        }
        tokens.begin(n);
        if (!weeksText.isWeeks()) {
            return none(FAULTY);
        }
        plot.copyFrom(weeksText.draft);
        return given(plot.steps);
    }

    public int fault(int what) {
        if (what == 0) {
            return tokens.fault;
        }
        return what == 1 ? tokens.faultPlace : NONE;
    }

    public int told(int what) {
        switch (what) {
            case 0:
                return given(now.guests);
            case 1:
                return given(now.odds);
            case 2:
                return given(now.resolve);
            case 3:
                return given(now.press);
            case 4:
                return given(now.loaf);
            case 5:
                return given(now.slices);
            case 6:
                return given(now.today);
            case 7:
                return given(now.cuts);
            case 8:
                return given(now.there);
            case 9:
                return given(now.hungrySet());
            case 10:
                return given(now.starvedSet());
            default:
                return none(WRONG_NUMBER);
        }
    }

    public int guest(int guest, int what) {
        if (!now.hasGuest(guest)) {
            return none(WRONG_NUMBER);
        }
        switch (what) {
            case 0:
                return given(now.wish[guest]);
            case 1:
                return given(now.bears[guest]);
            case 2:
                return given(now.dear[guest]);
            case 3:
                return given(now.kind[guest]);
            case 4:
                return given(now.hunger[guest]);
            case 5:
                return given(now.isThere(guest) ? 1 : 0);
            case 6:
                return givenIfAny(now.butterTo[guest]);
            case 7:
                return given(now.passingSet(guest));
            default:
                return none(WRONG_NUMBER);
        }
    }

    public int cutter() {
        return givenIfAny(now.firstCutter());
    }

    public int wanted() {
        return givenIfAny(now.mostPassed());
    }

    // ---- what is done

    public int day(int days) {
        if (!within(days, 1, 999)) {
            return none(WRONG_NUMBER);
        }
        if (!now.mayPass(days)) {
            return none(CANNOT_BE);
        }
        now.passDays(days);
        return given(now.countThere());
    }

    public int cut(int guest) {
        if (!now.hasGuest(guest)) {
            return none(WRONG_NUMBER);
        }
        return now.cutBy(guest) ? given(now.slices) : none(CANNOT_BE);
    }

    public int butter(int guest, int other) {
        if (!areTwo(guest, other)) {
            return none(WRONG_NUMBER);
        }
        int before = now.butterTo[guest];
        if (before == other) {
            return none(CANNOT_BE);
        }
        now.butterTo[guest] = other;
        return given(before == NONE ? now.guests : before);
    }

    public int soup(int guest) {
        if (!now.hasGuest(guest)) {
            return none(WRONG_NUMBER);
        }
        if (!now.hungers(guest)) {
            return none(CANNOT_BE);
        }
        int before = now.hunger[guest];
        now.hunger[guest] = 0;
        return given(before);
    }

    public int bake(int slices) {
        if (!within(slices, 1, MOST_LOAF)) {
            return none(WRONG_NUMBER);
        }
        int before = now.loaf;
        now.loaf = slices;
        return given(before);
    }

    public int sway(int guest, int wish) {
        if (!now.hasGuest(guest) || !within(wish, 0, MOST_WISH)) {
            return none(WRONG_NUMBER);
        }
        if (!now.isThere(guest)) {
            return none(CANNOT_BE);
        }
        int before = now.wish[guest];
        now.wish[guest] = wish;
        return given(before);
    }

    public int sit(int wish, int bears, int dear, int kind) {
        if (!within(wish, 0, MOST_WISH) || !within(bears, 0, MOST_WISH) || !within(dear, 0, MOST_WISH)
                || !within(kind, GOES, CUTS_END)) {
            return none(WRONG_NUMBER);
        }
        if (now.guests >= MOST_GUESTS) {
            return none(ONE_TOO_MANY);
        }
        int guest = now.guests;
        now.seat(Table.NAMELESS);
        now.wish[guest] = wish;
        now.bears[guest] = bears;
        now.dear[guest] = dear;
        now.kind[guest] = kind;
        return given(guest);
    }

    public int come(int guest) {
        if (!now.hasGuest(guest)) {
            return none(WRONG_NUMBER);
        }
        if (now.isThere(guest)) {
            return none(CANNOT_BE);
        }
        now.there |= 1 << guest;
        now.wish[guest] = 0;
        now.hunger[guest] = 0;
        return given(now.countThere());
    }

    public boolean rule(int what, int much) {
        if (what == 1 && within(much, 0, MOST_ODDS)) {
            now.odds = much;
        } else if (what == 2 && within(much, 1, MOST_WISH)) {
            now.resolve = much;
        } else if (what == 3 && within(much, 1, MOST_PRESS)) {
            now.press = much;
        } else {
            return refused(WRONG_NUMBER);
        }
        return agreed();
    }

    // ---- days ahead

    public int thereIn(int days) {
        if (!within(days, 0, MOST_AHEAD)) {
            return none(WRONG_NUMBER);
        }
        return given(ahead.inDays(days).there);
    }

    public int slicesIn(int days) {
        if (!within(days, 0, MOST_AHEAD)) {
            return none(WRONG_NUMBER);
        }
        return given(ahead.inDays(days).slices);
    }

    public int guestIn(int guest, int days, int what) {
        if (!now.hasGuest(guest) || !within(days, 0, MOST_AHEAD) || !within(what, 0, 1)) {
            return none(WRONG_NUMBER);
        }
        Table then = ahead.inDays(days);
        return given(what == 0 ? then.wish[guest] : then.hunger[guest]);
    }

    public int next() {
        ahead.findNext();
        return givenIfAny(ahead.nextDays);
    }

    public int nextBy() {
        ahead.findNext();
        return givenIfAny(ahead.nextGuest);
    }

    public int hangs() {
        return given(ahead.hangingSet());
    }

    public int starving() {
        return givenIfAny(ahead.daysToStarve());
    }

    public int least(int days) {
        if (!within(days, 1, 20)) {
            return none(WRONG_NUMBER);
        }
        return givenIfAny(ahead.leastLoaf(days));
    }

    // ---- plans

    public int plan(int days) {
        if (!within(days, 1, MOST_PLAN)) {
            return none(WRONG_NUMBER);
        }
        return givenIfAny(planner.leastDear(days));
    }

    public int planAt(int days, int k) {
        if (!within(days, 1, MOST_PLAN) || !within(k, 0, days - 1)) {
            return none(WRONG_NUMBER);
        }
        if (planner.leastDear(days) == NONE) {
            return none(NONE_SUCH);
        }
        int who = planner.bestRow[k];
        return given(who == NONE ? now.guests : who);
    }

    // ---- what is seen

    public int seen(int guest, int tray, int n) {
        int fails = seenFails(guest, tray, n);
        if (fails != FINE) {
            return none(fails);
        }
        sight.look(guest, trays[tray], n);
        return given(sight.couples);
    }

    public int seenAs(int guest, int tray, int n, int what) {
        int fails = within(what, 0, 1) ? seenFails(guest, tray, n) : WRONG_NUMBER;
        if (fails != FINE) {
            return none(fails);
        }
        sight.look(guest, trays[tray], n);
        if (sight.couples == 0) {
            return none(NONE_SUCH);
        }
        return given(what == 0 ? sight.firstResolve : sight.firstWish);
    }

    public int ask(int guest, int tray, int n) {
        int fails = seenFails(guest, tray, n);
        if (fails != FINE) {
            return none(fails);
        }
        sight.look(guest, trays[tray], n);
        if (sight.couples < 2) {
            return none(NONE_SUCH);
        }
        return given(sight.partingDay());
    }

    // ---- waits, odds, games

    public boolean waits(int guest, int other) {
        if (!areTwo(guest, other)) {
            return refused(WRONG_NUMBER);
        }
        return fraction(1, 1 + now.dear[other]);
    }

    public boolean chance(int n, int k) {
        if (!within(n, 0, 6) || !within(k, 0, 6)) {
            return refused(WRONG_NUMBER);
        }
        // ways: of 6 to the power of n, in how many just i pass it to the told one
        long ways = power(5, n);
        long enough = 0;
        for (int i = 0; i <= n; i++) {
            if (i >= k) {
                enough += ways;
            }
            ways = ways * (n - i) / ((i + 1) * 5L);
        }
        return fraction(enough, power(6, n));
    }

    public boolean stale(int n) {
        if (!within(n, 0, 12)) {
            return refused(WRONG_NUMBER);
        }
        return fraction(power(MOST_ODDS - now.odds, n), power(MOST_ODDS, n));
    }

    public boolean share(int guest) {
        if (!now.hasGuest(guest)) {
            return refused(WRONG_NUMBER);
        }
        int all = now.dearThere();
        if (all == 0) {
            return refused(NONE_SUCH);
        }
        if (!now.isThere(guest)) {
            return refused(CANNOT_BE);
        }
        return fraction(now.dear[guest], all);
    }

    public int game(int guest, int other, int n) {
        if (!areTwo(guest, other) || !within(n, 0, MOST_TURNS)) {
            return none(WRONG_NUMBER);
        }
        return given(contest.outcomeOf(guest, other, n));
    }

    public int moveOf(int guest, int other, int n) {
        if (!areTwo(guest, other) || !within(n, 1, MOST_TURNS)) {
            return none(WRONG_NUMBER);
        }
        contest.outcomeOf(guest, other, n);
        return givenIfAny(contest.firstMove);
    }

    public int copyWishes(int tray) {
        int fails = trayFails(tray, 0, now.guests);
        if (fails != FINE) {
            return none(fails);
        }
        for (int i = 0; i < now.guests; i++) {
            trays[tray].put(i, now.wish[i]);
        }
        return given(now.guests);
    }

    // ---- WEEKS

    public int live(int seed) {
        if (!within(seed, 0, LAST_SEED)) {
            return none(WRONG_NUMBER);
        }
        if (!plot.written) {
            return none(NONE_SUCH);
        }
        int days = now.today;
        int cuts = now.cuts;
        int there = now.countThere();
        life.pass(seed);
        ofLife[0] = life.missed;
        ofLife[1] = now.today - days;
        ofLife[2] = now.cuts - cuts;
        ofLife[3] = there - now.countThere();
        ofLife[4] = life.stepLeft ? 1 : 0;
        anyLife = true;
        return given(life.steps);
    }

    public int lived(int what) {
        if (!within(what, 0, 4)) {
            return none(WRONG_NUMBER);
        }
        if (!anyLife) {
            return none(NONE_SUCH);
        }
        return given(ofLife[what]);
    }

    public boolean mean(int seed, int many) {
        if (!within(seed, 0, LAST_SEED) || !within(many, 1, 20) || seed + many - 1 > LAST_SEED) {
            return refused(WRONG_NUMBER);
        }
        if (!plot.written) {
            return refused(NONE_SUCH);
        }
        int there = 0;
        life.kept.copyFrom(now);
        for (int i = 0; i < many; i++) {
            life.pass(seed + i);
            there += now.countThere();
            now.copyFrom(life.kept);
        }
        return fraction(there, many);
    }

    // ---- MARKS

    public int mark() {
        if (marks >= MOST_MARKS) {
            return none(ONE_TOO_MANY);
        }
        markedTables[marks].copyFrom(now);
        markedWeeks[marks].copyFrom(plot);
        marks++;
        return given(marks);
    }

    public int undo() {
        if (marks <= 0) {
            return none(NONE_SUCH);
        }
        marks--;
        now.copyFrom(markedTables[marks]);
        plot.copyFrom(markedWeeks[marks]);
        return given(marks);
    }

    // ---- answers with their STATUS

    private int given(int answer) {
        lastStatus = FINE;
        return answer;
    }

    private int givenIfAny(int answer) {
        return answer == NONE ? none(NONE_SUCH) : given(answer);
    }

    private int none(int status) {
        lastStatus = status;
        return NONE;
    }

    private boolean agreed() {
        lastStatus = FINE;
        return true;
    }

    private boolean refused(int status) {
        lastStatus = status;
        return false;
    }

    private boolean fraction(long above, long below) {
        long divisor = commonDivisor(above, below);
        if (divisor > 0) {
            fractionTop = above / divisor;
            fractionBottom = below / divisor;
        }
        return agreed();
    }

    // ---- what is asked ahead of an answer

    private static boolean within(int number, int low, int high) {
        return number >= low && number <= high;
    }

    private static boolean isTray(int tray) {
        return within(tray, 0, MOST_TRAYS - 1);
    }

    private boolean areTwo(int guest, int other) {
        return now.hasGuest(guest) && now.hasGuest(other) && guest != other;
    }

    /** The STATUS for so many numbers of a TRAY from a place on. */
    private int trayFails(int tray, int place, int many) {
        if (!isTray(tray)) {
            return WRONG_NUMBER;
        }
        if (!trays[tray].laid) {
            return TRAY_MISSING;
        }
        return trays[tray].has(place, many) ? FINE : NO_PLACE;
    }

    private int seenFails(int guest, int tray, int n) {
        if (!now.hasGuest(guest) || !within(n, 0, MOST_TWOS)) {
            return WRONG_NUMBER;
        }
        int fails = trayFails(tray, 0, 2 * n);
        if (fails != FINE) {
            return fails;
        }
        long[] numbers = trays[tray].numbers;
        for (int i = 0; i < 2 * n; i += 2) {
            if (numbers[i] < 0 || numbers[i] > MOST_SEEN_DAYS || numbers[i + 1] < 0 || numbers[i + 1] > MOST_GUESTS) {
                return WRONG_IN_TRAY;
            }
        }
        return FINE;
    }

    // ---- numbers

    private static long power(long base, int times) {
        long product = 1;
        for (int i = 0; i < times; i++) {
            product *= base;
        }
        return product;
    }

    private static long commonDivisor(long one, long other) {
        long high = one;
        long low = other;
        // Euclid's steps for two longs are fewer than 100
        for (int i = 0; i < 100 && low != 0; i++) {
            long rest = high % low;
            high = low;
            low = rest;
        }
        return high;
    }

    /** A TRAY: it keeps all its places, so that none is ever made anew. */
    private static final class Tray {
        boolean laid;
        int sort;
        int many;
        final long[] numbers = new long[MOST_IN_TRAY];

        void become(int newSort, int newMany) {
            laid = true;
            sort = newSort;
            many = newMany;
            for (int i = 0; i < MOST_IN_TRAY; i++) {
                numbers[i] = 0;
            }
        }

        boolean has(int place, int count) {
            return place >= 0 && count >= 0 && (long) place + count <= many;
        }

        void put(int place, long v) {
            if (!has(place, 1)) {
                return;
            }
            switch (sort) {
                case 0:
                    numbers[place] = (byte) v;
                    break;
                case 1:
                    numbers[place] = (short) v;
                    break;
                case 2:
                    numbers[place] = (int) v;
                    break;
                default:
                    numbers[place] = v;
            }
        }
    }

    /** The TABLE with all that became of it. */
    private static final class Table {
        static final long NAMELESS = 0;

        int guests;
        int odds;
        int resolve;
        int press;
        int loaf;
        int slices;
        int today;
        int cuts;
        int there;
        final long[] names = new long[MOST_GUESTS];
        final int[] wish = new int[MOST_GUESTS];
        final int[] bears = new int[MOST_GUESTS];
        final int[] dear = new int[MOST_GUESTS];
        final int[] kind = new int[MOST_GUESTS];
        final int[] hunger = new int[MOST_GUESTS];
        final int[] butterTo = new int[MOST_GUESTS];
        private final int[] passers = new int[MOST_GUESTS];

        Table() {
            clear();
        }

        void clear() {
            guests = 0;
            odds = 4;
            resolve = 5;
            press = 2;
            loaf = 8;
            slices = 0;
            today = 0;
            cuts = 0;
            there = 0;
        }

        void copyFrom(Table from) {
            guests = from.guests;
            odds = from.odds;
            resolve = from.resolve;
            press = from.press;
            loaf = from.loaf;
            slices = from.slices;
            today = from.today;
            cuts = from.cuts;
            there = from.there;
            System.arraycopy(from.names, 0, names, 0, MOST_GUESTS);
            System.arraycopy(from.wish, 0, wish, 0, MOST_GUESTS);
            System.arraycopy(from.bears, 0, bears, 0, MOST_GUESTS);
            System.arraycopy(from.dear, 0, dear, 0, MOST_GUESTS);
            System.arraycopy(from.kind, 0, kind, 0, MOST_GUESTS);
            System.arraycopy(from.hunger, 0, hunger, 0, MOST_GUESTS);
            System.arraycopy(from.butterTo, 0, butterTo, 0, MOST_GUESTS);
        }

        boolean hasGuest(int guest) {
            return guest >= 0 && guest < guests;
        }

        /** One more GUEST with all numbers 0, who is THERE and passes the BUTTER to nobody. */
        void seat(long name) {
            if (guests >= MOST_GUESTS) {
                return;
            }
            names[guests] = name;
            wish[guests] = 0;
            bears[guests] = 0;
            dear[guests] = 0;
            kind[guests] = GOES;
            hunger[guests] = 0;
            butterTo[guests] = NONE;
            there |= 1 << guests;
            guests++;
        }

        int guestNamed(long name) {
            for (int i = 0; i < guests; i++) {
                if (names[i] == name) {
                    return i;
                }
            }
            return NONE;
        }

        boolean isThere(int guest) {
            return guest >= 0 && guest < guests && (there & 1 << guest) != 0;
        }

        boolean hungers(int guest) {
            return isThere(guest) && hunger[guest] > 0;
        }

        int countThere() {
            return Integer.bitCount(there);
        }

        int hungrySet() {
            int set = 0;
            for (int i = 0; i < guests; i++) {
                if (hungers(i)) {
                    set |= 1 << i;
                }
            }
            return set;
        }

        int starvedSet() {
            int set = 0;
            for (int i = 0; i < guests; i++) {
                if (isThere(i) && hunger[i] > bears[i]) {
                    set |= 1 << i;
                }
            }
            return set;
        }

        int passingSet(int guest) {
            int set = 0;
            for (int i = 0; i < guests; i++) {
                if (isThere(i) && butterTo[i] == guest) {
                    set |= 1 << i;
                }
            }
            return set;
        }

        int dearThere() {
            int sum = 0;
            for (int i = 0; i < guests; i++) {
                if (isThere(i)) {
                    sum += dear[i];
                }
            }
            return sum;
        }

        int mostPassed() {
            int best = NONE;
            int most = 0;
            for (int i = 0; i < guests; i++) {
                int passing = Integer.bitCount(passingSet(i));
                if (isThere(i) && passing > most) {
                    best = i;
                    most = passing;
                }
            }
            return best;
        }

        /** Who CUTS first if a DAY goes by now. */
        int firstCutter() {
            if (slices > 0) {
                return NONE;
            }
            int best = NONE;
            int greatest = resolve - 1;
            for (int i = 0; i < guests; i++) {
                if (isThere(i) && wish[i] > greatest) {
                    best = i;
                    greatest = wish[i];
                }
            }
            return best;
        }

        /** CUT by a GUEST, or nothing: whether it could be. */
        boolean cutBy(int guest) {
            if (!isThere(guest) || slices > 0) {
                return false;
            }
            slices = kind[guest] == CUTS_END ? (loaf + 1) / 2 : loaf;
            cuts++;
            if (kind[guest] == STAYS_ON) {
                wish[guest] = 0;
            } else {
                there &= ~(1 << guest);
            }
            return true;
        }

        boolean mayPass(int days) {
            return today + days <= LAST_DAY;
        }

        void passDays(int days) {
            for (int i = 0; i < days; i++) {
                passDay(firstCutter());
            }
        }

        /** A DAY goes by; a told one CUTS first, or nobody (NONE). */
        void passDay(int cutter) {
            cutBy(cutter);
            eat();
            yearn();
            today++;
        }

        private void eat() {
            for (int i = 0; i < guests; i++) {
                if (!isThere(i)) {
                    continue;
                }
                if (slices > 0) {
                    slices--;
                    hunger[i] = 0;
                } else {
                    hunger[i] = Math.min(MOST_HUNGER, hunger[i] + 1);
                }
            }
        }

        private void yearn() {
            for (int i = 0; i < guests; i++) {
                passers[i] = 0;
            }
            for (int i = 0; i < guests; i++) {
                if (isThere(i) && hasGuest(butterTo[i])) {
                    passers[butterTo[i]]++;
                }
            }
            for (int i = 0; i < guests; i++) {
                if (isThere(i)) {
                    int more = (hunger[i] > 0 ? 1 : 0) + (passers[i] >= press ? 1 : 0);
                    wish[i] = Math.min(MOST_WISH, wish[i] + more);
                }
            }
        }
    }

    /** The WEEKS: their STEPS one behind the other, the STEPS within a when or loop behind it. */
    private static final class Weeks {
        boolean written;
        int steps;
        final int[] word = new int[MOST_STEPS];
        final int[] test = new int[MOST_STEPS];
        final int[] who = new int[MOST_STEPS];
        final int[] whom = new int[MOST_STEPS];
        final int[] compares = new int[MOST_STEPS];
        final int[] much = new int[MOST_STEPS];
        /** Of a when or loop: the STEP behind its end. */
        final int[] behind = new int[MOST_STEPS];

        void forget() {
            written = false;
            steps = 0;
        }

        void copyFrom(Weeks from) {
            written = from.written;
            steps = from.steps;
            System.arraycopy(from.word, 0, word, 0, MOST_STEPS);
            System.arraycopy(from.test, 0, test, 0, MOST_STEPS);
            System.arraycopy(from.who, 0, who, 0, MOST_STEPS);
            System.arraycopy(from.whom, 0, whom, 0, MOST_STEPS);
            System.arraycopy(from.compares, 0, compares, 0, MOST_STEPS);
            System.arraycopy(from.much, 0, much, 0, MOST_STEPS);
            System.arraycopy(from.behind, 0, behind, 0, MOST_STEPS);
        }
    }

    /** The tape, its text's TOKENS, one at a time, and the text's first FAULT. */
    private static final class Tokens {
        static final int NO_TOKEN = 1;
        static final int OUT_OF_PLACE = 2;
        static final int WRONG_NAME = 3;
        static final int NOT_THAT_MUCH = 4;
        static final int TOLD_ALREADY = 5;
        static final int TOO_MANY = 6;
        static final int TOO_DEEP = 7;

        private final byte[] tape = new byte[MOST_TAPE];
        int onTape;
        private int length;
        private int at;
        private int place;
        int kind;
        /** A WORD's letters, five bits each: of at most 8 letters no two are the same. */
        long name;
        private int digits;
        /** The NUMBER that was taken latest. */
        int number;
        /** NONE ahead of any text. */
        int fault = NONE;
        int faultPlace = NONE;

        void append(int four) {
            for (int shift = 24; shift >= 0 && onTape < MOST_TAPE; shift -= 8) {
                tape[onTape] = (byte) (four >> shift);
                onTape++;
            }
        }

        /** The first n bytes are a text from now on; the tape is empty then, though they stand there still. */
        void begin(int n) {
            length = Math.min(n, onTape);
            onTape = 0;
            at = 0;
            fault = 0;
            faultPlace = NONE;
            advance();
        }

        /** The TOKEN that is there now can't be taken: always false. */
        boolean refuse(int why) {
            fault = kind == BAD_TOKEN ? NO_TOKEN : why;
            faultPlace = place;
            return false;
        }

        boolean take(int due) {
            if (kind != due) {
                return refuse(OUT_OF_PLACE);
            }
            advance();
            return true;
        }

        boolean takeNumber(int low, int high) {
            if (kind != NUMBER) {
                return refuse(OUT_OF_PLACE);
            }
            if (digits < low || digits > high) {
                return refuse(NOT_THAT_MUCH);
            }
            number = digits;
            advance();
            return true;
        }

        /** The GUEST whose NAME is there now, which is not taken yet; NONE if it is refused. */
        int namedGuest(Table table) {
            if (kind != NAME) {
                refuse(OUT_OF_PLACE);
                return NONE;
            }
            int guest = table.guestNamed(name);
            if (guest == NONE) {
                refuse(WRONG_NAME);
            }
            return guest;
        }

        void advance() {
            while (at < length && (tape[at] == 10 || tape[at] == 32)) {
                at++;
            }
            place = at;
            name = 0;
            digits = 0;
            if (at >= length) {
                kind = TEXT_END;
                return;
            }
            int sign = tape[at];
            if (sign >= 'a' && sign <= 'z') {
                readLetters();
                kind = at - place > 8 ? LONG_WORD : kindOfWord(name);
            } else if (sign >= '0' && sign <= '9') {
                readDigits();
                kind = at - place > 4 ? BAD_TOKEN : NUMBER;
            } else if (sign == ';' || sign == '<' || sign == '>' || sign == '=') {
                kind = sign;
                at++;
            } else {
                kind = BAD_TOKEN;
            }
        }

        private void readLetters() {
            while (at < length && tape[at] >= 'a' && tape[at] <= 'z') {
                name = name * 32 + (tape[at] - 'a' + 1);
                at++;
            }
        }

        private void readDigits() {
            while (at < length && tape[at] >= '0' && tape[at] <= '9') {
                digits = digits * 10 + (tape[at] - '0');
                at++;
            }
        }

        private static int kindOfWord(long word) {
            int kind = ODDS;
            long spelled = 0;
            for (int i = 0; i < KEYWORDS.length(); i++) {
                char sign = KEYWORDS.charAt(i);
                if (sign != ' ') {
                    spelled = spelled * 32 + (sign - 'a' + 1);
                } else if (spelled == word) {
                    return kind;
                } else {
                    spelled = 0;
                    kind++;
                }
            }
            return NAME;
        }
    }

    /** Reads a TABLE into a draft, so that a FAULT leaves the old one as it is. */
    private static final class TableText {
        private final Tokens in;
        final Table draft = new Table();
        /** The set of odds, resolve, press, loaf, slices that are told already. */
        private int settings;

        TableText(Tokens in) {
            this.in = in;
        }

        boolean isTable() {
            draft.clear();
            settings = 0;
            boolean good = true;
            for (int parts = 0; parts <= MOST_TAPE && good && in.kind != TEXT_END; parts++) {
                switch (in.kind) {
                    case GUEST:
                        good = takeGuest();
                        break;
                    case BUTTER:
                        good = takeButter();
                        break;
                    default:
                        good = takeSetting(in.kind);
                }
            }
            return good;
        }

        private boolean takeSetting(int word) {
            if (!within(word, ODDS, SLICES)) {
                return in.refuse(Tokens.OUT_OF_PLACE);
            }
            if ((settings & 1 << word) != 0) {
                return in.refuse(Tokens.TOLD_ALREADY);
            }
            settings |= 1 << word;
            in.advance();
            return takeSettingsNumber(word) && in.take(';');
        }

        private boolean takeSettingsNumber(int word) {
            boolean good;
            switch (word) {
                case ODDS:
                    good = in.takeNumber(0, MOST_ODDS);
                    draft.odds = in.number;
                    break;
                case RESOLVE:
                    good = in.takeNumber(1, MOST_WISH);
                    draft.resolve = in.number;
                    break;
                case PRESS:
                    good = in.takeNumber(1, MOST_PRESS);
                    draft.press = in.number;
                    break;
                case LOAF:
                    good = in.takeNumber(1, MOST_LOAF);
                    draft.loaf = in.number;
                    break;
                default:
                    good = in.takeNumber(0, MOST_LOAF);
                    draft.slices = in.number;
            }
            return good;
        }

        private boolean takeGuest() {
            int guest = draft.guests;
            if (guest >= MOST_GUESTS) {
                return in.refuse(Tokens.TOO_MANY);
            }
            in.advance();
            if (in.kind != NAME) {
                return in.refuse(Tokens.OUT_OF_PLACE);
            }
            if (draft.guestNamed(in.name) != NONE) {
                return in.refuse(Tokens.WRONG_NAME);
            }
            draft.seat(in.name);
            in.advance();
            if (!in.take(WISH) || !in.takeNumber(0, MOST_WISH)) {
                return false;
            }
            draft.wish[guest] = in.number;
            if (!in.take(BEARS) || !in.takeNumber(0, MOST_WISH)) {
                return false;
            }
            draft.bears[guest] = in.number;
            if (!in.take(DEAR) || !in.takeNumber(0, MOST_WISH)) {
                return false;
            }
            draft.dear[guest] = in.number;
            if (in.kind == STAYS || in.kind == END) {
                draft.kind[guest] = in.kind == STAYS ? STAYS_ON : CUTS_END;
                in.advance();
            }
            return in.take(';');
        }

        private boolean takeButter() {
            in.advance();
            int guest = in.namedGuest(draft);
            if (guest == NONE) {
                return false;
            }
            if (draft.butterTo[guest] != NONE) {
                return in.refuse(Tokens.TOLD_ALREADY);
            }
            in.advance();
            int other = in.namedGuest(draft);
            if (other == NONE) {
                return false;
            }
            if (other == guest) {
                return in.refuse(Tokens.TOLD_ALREADY);
            }
            draft.butterTo[guest] = other;
            in.advance();
            return in.take(';');
        }
    }

    /** Reads WEEKS into a draft, so that a FAULT leaves the old ones as they are. */
    private static final class WeeksText {
        private final Tokens in;
        private final Table table;
        final Weeks draft = new Weeks();
        private final int[] opened = new int[MOST_NESTED];
        private int open;

        WeeksText(Tokens in, Table table) {
            this.in = in;
            this.table = table;
        }

        boolean isWeeks() {
            draft.forget();
            open = 0;
            boolean good = true;
            for (int parts = 0; parts <= MOST_WEEKS_TEXT && good && in.kind != TEXT_END; parts++) {
                int step = draft.steps;
                if (in.kind == END) {
                    good = takeEnd();
                } else {
                    good = beginStep(in.kind) && takeRest(step) && in.take(';');
                }
            }
            if (good && open > 0) {
                good = in.refuse(Tokens.OUT_OF_PLACE);
            }
            draft.written = good;
            return good;
        }

        private boolean takeEnd() {
            if (open <= 0) {
                return in.refuse(Tokens.OUT_OF_PLACE);
            }
            open--;
            draft.behind[opened[open]] = draft.steps;
            in.advance();
            return in.take(';');
        }

        private boolean beginStep(int word) {
            boolean opens = word == WHEN || word == LOOP;
            if (!opens && word != STOP && word != BUTTER && !within(word, DAY, ANY)) {
                return in.refuse(Tokens.OUT_OF_PLACE);
            }
            if (draft.steps >= MOST_STEPS) {
                return in.refuse(Tokens.TOO_MANY);
            }
            if (opens && open >= MOST_NESTED) {
                return in.refuse(Tokens.TOO_DEEP);
            }
            if (opens) {
                opened[open] = draft.steps;
                open++;
            }
            draft.word[draft.steps] = word;
            draft.steps++;
            in.advance();
            return true;
        }

        private boolean takeRest(int step) {
            switch (draft.word[step]) {
                case DAY:
                    return takeMuch(step, 1, 20);
                case CUT:
                case SOUP:
                    return takeGuest(draft.who, step, NONE);
                case BUTTER:
                    return takeGuest(draft.who, step, NONE) && takeGuest(draft.whom, step, draft.who[step]);
                case BAKE:
                    return takeMuch(step, 1, MOST_LOAF);
                case WHEN:
                    return takeTest(step);
                case LOOP:
                    return takeMuch(step, 1, 99);
                default:
                    return true;
            }
        }

        private boolean takeTest(int step) {
            int test = in.kind;
            if (test != THERE && test != HUNGRY && test != BREAD && test != WISH) {
                return in.refuse(Tokens.OUT_OF_PLACE);
            }
            draft.test[step] = test;
            in.advance();
            if (test != BREAD && !takeGuest(draft.who, step, NONE)) {
                return false;
            }
            if (test == THERE || test == HUNGRY) {
                return true;
            }
            if (!takeCompares(step) || !in.takeNumber(0, test == BREAD ? MOST_LOAF : MOST_WISH)) {
                return false;
            }
            draft.much[step] = in.number;
            return true;
        }

        private boolean takeCompares(int step) {
            if (in.kind != '<' && in.kind != '>' && in.kind != '=') {
                return in.refuse(Tokens.OUT_OF_PLACE);
            }
            draft.compares[step] = in.kind;
            in.advance();
            return true;
        }

        private boolean takeMuch(int step, int low, int high) {
            if (!in.takeNumber(low, high)) {
                return false;
            }
            draft.much[step] = in.number;
            return true;
        }

        private boolean takeGuest(int[] row, int step, int butNot) {
            int guest = in.namedGuest(table);
            if (guest == NONE) {
                return false;
            }
            if (guest == butNot) {
                return in.refuse(Tokens.TOLD_ALREADY);
            }
            row[step] = guest;
            in.advance();
            return true;
        }
    }

    /** What comes as only DAYS go by. */
    private static final class Ahead {
        private final Table now;
        private final Table then = new Table();
        int nextDays;
        int nextGuest;

        Ahead(Table now) {
            this.now = now;
        }

        Table inDays(int days) {
            then.copyFrom(now);
            then.passDays(days);
            return then;
        }

        void findNext() {
            then.copyFrom(now);
            findNextOfThen();
        }

        private void findNextOfThen() {
            nextDays = NONE;
            nextGuest = NONE;
            for (int days = 1; days <= MOST_AHEAD && nextGuest == NONE; days++) {
                int cutter = then.firstCutter();
                if (cutter == NONE) {
                    then.passDay(NONE);
                } else {
                    nextDays = days;
                    nextGuest = cutter;
                }
            }
        }

        int hangingSet() {
            findNext();
            int days = nextDays;
            int cutter = nextGuest;
            int set = 0;
            for (int i = 0; i < now.guests; i++) {
                if (!now.isThere(i)) {
                    continue;
                }
                then.copyFrom(now);
                then.there &= ~(1 << i);
                findNextOfThen();
                if (nextDays != days || nextGuest != cutter) {
                    set |= 1 << i;
                }
            }
            return set;
        }

        int daysToStarve() {
            then.copyFrom(now);
            for (int days = 0; days <= MOST_AHEAD; days++) {
                if (then.starvedSet() != 0) {
                    return days;
                }
                then.passDays(1);
            }
            return NONE;
        }

        int leastLoaf(int days) {
            for (int loaf = 1; loaf <= MOST_LOAF; loaf++) {
                if (isEnough(loaf, days)) {
                    return loaf;
                }
            }
            return NONE;
        }

        private boolean isEnough(int loaf, int days) {
            then.copyFrom(now);
            then.loaf = loaf;
            for (int i = 0; i < days; i++) {
                then.passDays(1);
                if (then.starvedSet() != 0) {
                    return false;
                }
            }
            return true;
        }
    }

    /** Finds a PLAN: all rows of CUTS in their order, but for those that can't be the best. */
    private static final class Planner {
        private final Table now;
        private final Table[] morning = new Table[MOST_PLAN + 1];
        private final int[] row = new int[MOST_PLAN];
        final int[] bestRow = new int[MOST_PLAN];
        private int best;

        Planner(Table now) {
            this.now = now;
            for (int i = 0; i <= MOST_PLAN; i++) {
                morning[i] = new Table();
            }
        }

        int leastDear(int days) {
            best = NONE;
            morning[0].copyFrom(now);
            search(0, Math.min(days, MOST_PLAN), 0);
            return best;
        }

        private void search(int day, int days, int dear) {
            if (best != NONE && dear >= best) {
                return;
            }
            if (day >= days) {
                best = dear;
                System.arraycopy(row, 0, bestRow, 0, MOST_PLAN);
                return;
            }
            tryCutter(day, days, dear, NONE);
            for (int i = 0; i < now.guests && morning[day].slices == 0; i++) {
                if (morning[day].isThere(i)) {
                    tryCutter(day, days, dear, i);
                }
            }
        }

        private void tryCutter(int day, int days, int dear, int cutter) {
            Table next = morning[day + 1];
            next.copyFrom(morning[day]);
            next.passDay(cutter);
            if (next.starvedSet() != 0) {
                return;
            }
            row[day] = cutter;
            boolean leaves = next.hasGuest(cutter) && !next.isThere(cutter);
            search(day + 1, days, leaves ? dear + next.dear[cutter] : dear);
        }
    }

    /** Tells WISHES from how many are SEEN. */
    private static final class Sight {
        private final Table now;
        private final Table then = new Table();
        private final int[] counts = new int[MOST_SEEN_DAYS + 1];
        /** How many couples have so many THERE in so many DAYS. */
        private final int[][] sizes = new int[MOST_SEEN_DAYS + 1][MOST_GUESTS + 1];
        int couples;
        int firstResolve;
        int firstWish;

        Sight(Table now) {
            this.now = now;
        }

        void look(int guest, Tray tray, int n) {
            forget();
            if (!now.hasGuest(guest)) {
                return;
            }
            for (int resolve = 1; resolve <= 9; resolve++) {
                for (int wish = 0; wish <= 9; wish++) {
                    countAhead(guest, resolve, wish);
                    if (isAsSeen(tray, n)) {
                        addCouple(resolve, wish);
                    }
                }
            }
        }

        int partingDay() {
            int best = NONE;
            int fewest = 0;
            for (int day = 0; day <= MOST_SEEN_DAYS; day++) {
                int most = 0;
                for (int count = 0; count <= MOST_GUESTS; count++) {
                    most = Math.max(most, sizes[day][count]);
                }
                if (best == NONE || most < fewest) {
                    best = day;
                    fewest = most;
                }
            }
            return best;
        }

        private void forget() {
            couples = 0;
            for (int day = 0; day <= MOST_SEEN_DAYS; day++) {
                for (int count = 0; count <= MOST_GUESTS; count++) {
                    sizes[day][count] = 0;
                }
            }
        }

        private void countAhead(int guest, int resolve, int wish) {
            then.copyFrom(now);
            then.resolve = resolve;
            then.wish[guest] = wish;
            for (int day = 0; day <= MOST_SEEN_DAYS; day++) {
                counts[day] = then.countThere();
                then.passDays(1);
            }
        }

        private boolean isAsSeen(Tray tray, int n) {
            for (int i = 0; i < n && 2 * i + 1 < tray.many; i++) {
                long day = tray.numbers[2 * i];
                if (day < 0 || day > MOST_SEEN_DAYS || counts[(int) day] != tray.numbers[2 * i + 1]) {
                    return false;
                }
            }
            return true;
        }

        private void addCouple(int resolve, int wish) {
            if (couples == 0) {
                firstResolve = resolve;
                firstWish = wish;
            }
            couples++;
            for (int day = 0; day <= MOST_SEEN_DAYS; day++) {
                if (counts[day] >= 0 && counts[day] <= MOST_GUESTS) {
                    sizes[day][counts[day]]++;
                }
            }
        }
    }

    /** Plays a GAME by looking at all its turns. */
    private static final class Contest {
        private final Table now;
        private final Table board = new Table();
        private final Table then = new Table();
        private int first;
        private int second;
        private int turns;
        int firstMove;

        Contest(Table now) {
            this.now = now;
        }

        int outcomeOf(int guest, int other, int n) {
            first = guest;
            second = other;
            turns = Math.min(n, MOST_TURNS);
            firstMove = NONE;
            board.copyFrom(now);
            return bestFrom(0);
        }

        private int bestFrom(int turn) {
            if (turn >= turns) {
                return outcome();
            }
            boolean firstPlays = turn % 2 == 0;
            int target = firstPlays ? first : second;
            int best = firstPlays ? -2 : 2;
            int move = NONE;
            for (int i = 0; i < board.guests; i++) {
                if (i == target || !board.isThere(i)) {
                    continue;
                }
                int before = board.butterTo[i];
                board.butterTo[i] = target;
                int value = bestFrom(turn + 1);
                board.butterTo[i] = before;
                if (firstPlays ? value > best : value < best) {
                    best = value;
                    move = i;
                }
            }
            int idle = bestFrom(turn + 1);
            if (firstPlays ? idle > best : idle < best) {
                best = idle;
                move = NONE;
            }
            if (turn == 0) {
                firstMove = move;
            }
            return best;
        }

        private int outcome() {
            then.copyFrom(board);
            then.passDays(GAME_DAYS);
            return (then.isThere(first) ? 0 : 1) - (then.isThere(second) ? 0 : 1);
        }
    }

    /** Lives the WEEKS. */
    private static final class Life {
        private final Table table;
        private final Weeks plot;
        /** How all was ahead of lives that are taken back. */
        final Table kept = new Table();
        private int drawn;
        private boolean over;
        int steps;
        int missed;
        boolean stepLeft;

        Life(Table table, Weeks plot) {
            this.table = table;
            this.plot = plot;
        }

        void pass(int seed) {
            drawn = seed;
            over = false;
            steps = 0;
            missed = 0;
            stepLeft = false;
            goThrough(0, plot.steps, 0);
        }

        /** The STEPS of one when or loop, or of the WEEKS, once. */
        private void goThrough(int from, int to, int depth) {
            int step = from;
            for (int i = 0; i < MOST_STEPS && step < to && !over; i++) {
                if (steps >= MOST_LIVED) {
                    stepLeft = true;
                    over = true;
                    return;
                }
                steps++;
                if (plot.word[step] != WHEN && plot.word[step] != LOOP) {
                    goStep(step);
                    step++;
                    continue;
                }
                int times = timesWithin(step);
                int behind = plot.behind[step];
                for (int k = 0; k < times && !over && depth < MOST_NESTED; k++) {
                    goThrough(step + 1, behind, depth + 1);
                }
                step = behind;
            }
        }

        private int timesWithin(int step) {
            if (plot.word[step] == LOOP) {
                return plot.much[step];
            }
            return holds(step) ? 1 : 0;
        }

        private boolean holds(int step) {
            int who = plot.who[step];
            switch (plot.test[step]) {
                case THERE:
                    return table.isThere(who);
                case HUNGRY:
                    return table.hungers(who);
                case BREAD:
                    return compare(table.slices, step);
                default:
                    return table.hasGuest(who) && compare(table.wish[who], step);
            }
        }

        private boolean compare(int number, int step) {
            int much = plot.much[step];
            switch (plot.compares[step]) {
                case '<':
                    return number < much;
                case '>':
                    return number > much;
                default:
                    return number == much;
            }
        }

        private void goStep(int step) {
            boolean could = true;
            switch (plot.word[step]) {
                case DAY:
                    could = table.mayPass(plot.much[step]);
                    if (could) {
                        table.passDays(plot.much[step]);
                    }
                    break;
                case CUT:
                    could = table.cutBy(plot.who[step]);
                    break;
                case BUTTER:
                    could = goButter(plot.who[step], plot.whom[step]);
                    break;
                case SOUP:
                    could = goSoup(plot.who[step]);
                    break;
                case BAKE:
                    could = table.loaf != plot.much[step];
                    table.loaf = plot.much[step];
                    break;
                case ANY:
                    could = goAny();
                    break;
                default:
                    over = true;
            }
            if (!could) {
                missed++;
            }
        }

        private boolean goButter(int who, int whom) {
            if (!table.hasGuest(who) || table.butterTo[who] == whom) {
                return false;
            }
            table.butterTo[who] = whom;
            return true;
        }

        private boolean goSoup(int who) {
            if (!table.hungers(who)) {
                return false;
            }
            table.hunger[who] = 0;
            return true;
        }

        private boolean goAny() {
            if (table.guests <= 0) {
                return false;
            }
            int who = draw(table.guests);
            boolean wishes = draw(16) < table.odds;
            boolean could = wishes ? table.isThere(who) && table.wish[who] < MOST_WISH : table.mayPass(1);
            if (could && wishes) {
                table.wish[who]++;
            } else if (could) {
                table.passDay(table.firstCutter());
            }
            return could;
        }

        private int draw(int n) {
            drawn = (drawn * 3283 + 11511) % 65536;
            return n > 0 ? drawn / 8 % n : 0;
        }
    }
}
