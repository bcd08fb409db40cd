import java.math.BigInteger;

/**
 * Terms 3 (WAIT, BUTTER by chance, GAME) and 4 (FRACTIONS), promises 3, 4 and 39 to 44: a check for each edge that they
 * name; refusals are in RefusedTest.
 */
public final class OddsEdgeTest {
    private static final Check CHECK = new Check("OddsEdgeTest");

    public static void main(String[] args) {
        fractions();
        waits();
        chances();
        stale();
        shares();
        gamesOfTenDays();
        gamesByTurns();
        moves();
        nothingComesLast();
        gamesOfThoseGone();
        CHECK.end();
    }

    private static void fraction(String what, LoafTable x, boolean got, BigInteger top, BigInteger bottom) {
        BigInteger divisor = top.gcd(bottom);
        CHECK.fraction(what, x, got, top.divide(divisor).longValueExact(), bottom.divide(divisor).longValueExact());
    }

    /** "told by top() and bottom() without a common divisor, the bottom above 0; 0 is 0 by 1"; "told latest". */
    private static void fractions() {
        LoafTable x = new LoafTable();
        CHECK.due("0 by", x.top(), 0);
        CHECK.due("1", x.bottom(), 1);
        CHECK.not("a refused one", x, x.chance(0, -1), 1);
        CHECK.due("0 by", x.top(), 0);
        CHECK.due("1", x.bottom(), 1);
        CHECK.fraction("half of it", x, x.chance(1, 1), 1, 6);
        CHECK.fraction("0 is 0 by 1, not by 6", x, x.chance(1, 2), 0, 1);
        CHECK.fraction("all is 1 by 1", x, x.chance(5, 0), 1, 1);
        CHECK.fraction("a quarter off", x, x.stale(1), 3, 4);
        x.mark();
        CHECK.fraction("another", x, x.stale(0), 1, 1);
        x.undo();
        x.told(0);
        x.told(-1);
        CHECK.due("the latest stays: 1 by", x.top(), 1);
        CHECK.due("1", x.bottom(), 1);
    }

    /** "1 by 1 and what the other one is DEAR, together": DEAR 0 to 20, whatever the first is. */
    private static void waits() {
        for (int dear = 0; dear <= 20; dear++) {
            LoafTable x = new LoafTable();
            x.sit(0, 0, 20 - dear, 0);
            x.sit(0, 0, dear, 1);
            CHECK.fraction("for one who is DEAR " + dear, x, x.waits(0, 1), 1, 1 + dear);
            CHECK.fraction("for one who is DEAR " + (20 - dear), x, x.waits(1, 0), 1, 21 - dear);
            x.cut(0);
            CHECK.fraction("of one who is GONE", x, x.waits(0, 1), 1, 1 + dear);
            CHECK.fraction("for one who is GONE", x, x.waits(1, 0), 1, 21 - dear);
        }
    }

    /** n and k 0 to 6, counted one by one: i of n by 5 to the power of those who do not. */
    private static void chances() {
        LoafTable x = new LoafTable();
        for (int n = 0; n <= 6; n++) {
            for (int k = 0; k <= 6; k++) {
                BigInteger ways = BigInteger.ZERO;
                for (int i = k; i <= n; i++) {
                    BigInteger chosen = BigInteger.ONE;
                    for (int j = 0; j < i; j++) {
                        chosen = chosen.multiply(BigInteger.valueOf(n - j)).divide(BigInteger.valueOf(j + 1));
                    }
                    ways = ways.add(chosen.multiply(BigInteger.valueOf(5).pow(n - i)));
                }
                fraction("chance(" + n + ", " + k + ")", x, x.chance(n, k), ways, BigInteger.valueOf(6).pow(n));
            }
        }
    }

    /** n 0 to 12, ODDS 0 to 16. */
    private static void stale() {
        LoafTable x = new LoafTable();
        for (int odds = 0; odds <= 16; odds++) {
            x.rule(1, odds);
            for (int n = 0; n <= 12; n++) {
                fraction("ODDS " + odds + ", stale(" + n + ")", x, x.stale(n), BigInteger.valueOf(16 - odds).pow(n), BigInteger.valueOf(16).pow(n));
            }
            if (odds == 8) {
                x = new LoafTable();
            }
        }
    }

    /** "the part of all that is DEAR of those THERE that a GUEST is (1; 6: nothing is; 7: he is GONE)". */
    private static void shares() {
        LoafTable x = new LoafTable();
        x.sit(0, 0, 20, 0);
        CHECK.fraction("alone", x, x.share(0), 1, 1);
        for (int i = 1; i < 7; i++) {
            x.sit(0, 0, 20, 0);
        }
        CHECK.fraction("one of seven", x, x.share(6), 1, 7);
        LoafTable y = Check.laid("loaf 1;guest a wish 0 bears 0 dear 6;guest b wish 0 bears 0 dear 0;guest c wish 0 bears 0 dear 9;");
        CHECK.fraction("6 of 15", y, y.share(0), 2, 5);
        CHECK.fraction("0 of 15", y, y.share(1), 0, 1);
        CHECK.fraction("9 of 15", y, y.share(2), 3, 5);
        y.cut(2);
        CHECK.fraction("6 of 6, of those THERE", y, y.share(0), 1, 1);
        CHECK.fraction("0 of 6", y, y.share(1), 0, 1);
        CHECK.not("GONE", y, y.share(2), 7);
        CHECK.due("top stays", y.top(), 0);
        y.day(1);
        y.cut(0);
        CHECK.not("nothing is DEAR of those THERE", y, y.share(1), 6);
        CHECK.not("6 ahead of 7", y, y.share(0), 6);
        y.come(0);
        CHECK.fraction("THERE again", y, y.share(0), 1, 1);
    }

    private static void games(String what, LoafTable x, int guest, int other, int... want) {
        for (int n = 0; n < want.length; n++) {
            CHECK.due(what + ": game(" + guest + ", " + other + ", " + n + ")", x.game(guest, other, n), want[n]);
            CHECK.due(what + ": STATUS tells -1 from NONE", x.status(), 0);
        }
    }

    /** "then 10 DAYS go by": one who goes on the tenth, on the eleventh. */
    private static void gamesOfTenDays() {
        LoafTable tenth = Check.laid("resolve 9;guest a wish 0 bears 0 dear 0;guest b wish 0 bears 0 dear 0;");
        games("on the tenth", tenth, 0, 1, 1);
        games("the other one on the tenth", tenth, 1, 0, -1);
        LoafTable eleventh = Check.laid("resolve 10;guest a wish 0 bears 0 dear 0;guest b wish 0 bears 0 dear 0;");
        games("on the eleventh", eleventh, 0, 1, 0);
        games("the other one on the eleventh", eleventh, 1, 0, 0);
        LoafTable both = Check.laid("resolve 5;loaf 1;guest a wish 5 bears 0 dear 0;guest b wish 5 bears 0 dear 0;");
        games("both go: 1 less 1", both, 0, 1, 0, 0, 0, 0);
    }

    /** "GAME of two GUESTS and n turns (0 to 3): by turns, first one who wants the first GUEST to go". */
    private static void gamesByTurns() {
        // 0: b has a wish of 5 behind day 3, goes on day 4, his loaf is for all days. 1: b passes it to a, who goes on
        // day 3, his loaf is for b to day 9. 2: a passes it to b, both are pressed: b goes on day 3, a on day 10
        LoafTable x = Check.laid("press 1;resolve 5;loaf 7;guest a wish 1 bears 20 dear 0;guest b wish 2 bears 20 dear 0;");
        games("two", x, 0, 1, -1, 1, 0, 0);
        CHECK.due("b passes it to a", x.moveOf(0, 1, 1), 1);
        CHECK.due("b passes it to a", x.moveOf(0, 1, 3), 1);
        // 0: c cuts on day 5, a has 9 behind day 10 alone. 1: a, pressed, goes on day 5. 2: c passes it to b, who goes on
        // day 9. 3: c passes it to a again
        LoafTable y = Check.laid("press 1;resolve 9;loaf 8;guest a wish 2 bears 20 dear 0;guest b wish 0 bears 20 dear 0;"
            + "guest c wish 5 bears 20 dear 0 stays;");
        games("three", y, 0, 1, 0, 1, 0, 1);
        CHECK.due("b, as c would have b pressed", y.moveOf(0, 1, 2), 1);
        CHECK.none("four turns", y, y.game(0, 1, 4), 1);
        CHECK.none("four turns", y, y.moveOf(0, 1, 4), 1);
        CHECK.none("no turn", y, y.moveOf(0, 1, 0), 1);
    }

    /** "MOVE: whom the first one has pass it first, of all that are as good the first". */
    private static void moves() {
        LoafTable x = Check.laid("guest a wish 0 bears 20 dear 0;guest b wish 0 bears 20 dear 0;guest c wish 0 bears 20 dear 0;");
        CHECK.due("not he himself, of two the first", x.moveOf(0, 1, 1), 1);
        CHECK.due("of two the first", x.moveOf(1, 0, 1), 0);
        CHECK.due("the other one, too, may pass it", x.moveOf(2, 0, 3), 0);
        CHECK.due("STATUS", x.status(), 0);
        x.cut(0);
        CHECK.due("one who is THERE", x.moveOf(2, 0, 1), 1);
        CHECK.due("one who is THERE, for one who is GONE", x.moveOf(0, 2, 1), 1);
        x.butter(1, 2);
        CHECK.due("one who passes it to him already", x.moveOf(2, 0, 1), 1);
    }

    /** "nothing comes last"; "6 nothing". */
    private static void nothingComesLast() {
        // a, who stays, cuts on day 8: b, pressed, has no slice to cut ahead of day 11. Were a pressed, he would cut on
        // day 5, b would hunger on days 8 and 9 and go on day 10
        LoafTable x = Check.laid("press 1;resolve 15;loaf 7;guest a wish 8 bears 20 dear 0 stays;guest b wish 1 bears 20 dear 0 end;butter a b;");
        games("nothing is better than b's BUTTER", x, 0, 1, 0, 0, 0, 0);
        for (int n = 1; n <= 3; n++) {
            CHECK.none("nothing, as that is better: moveOf(0, 1, " + n + ")", x, x.moveOf(0, 1, n), 6);
        }
        x.butter(1, 0);
        games("b passes it to him", x, 0, 1, -1, -1, -1, -1);
        CHECK.due("as good as nothing, so ahead of it", x.moveOf(0, 1, 1), 1);
        LoafTable alone = Check.laid("guest a wish 0 bears 20 dear 0;guest b wish 0 bears 20 dear 0;");
        alone.cut(1);
        CHECK.none("nobody but he is THERE", alone, alone.moveOf(0, 1, 1), 6);
        CHECK.due("the one who is THERE, for one who is GONE", alone.moveOf(1, 0, 1), 0);
        LoafTable nobody = Made.deserted();
        CHECK.none("nobody is THERE", nobody, nobody.moveOf(0, 1, 3), 6);
    }

    /** "1 if the first GUEST is GONE, less 1 if the other one is": those who are GONE ahead, too. */
    private static void gamesOfThoseGone() {
        LoafTable x = Check.laid("loaf 60;resolve 20;guest a wish 0 bears 20 dear 0;guest b wish 0 bears 20 dear 0;guest c wish 0 bears 20 dear 0;");
        x.cut(1);
        games("the other one is GONE", x, 0, 1, -1, -1, -1, -1);
        games("the first is GONE", x, 1, 0, 1, 1, 1, 1);
        games("neither is", x, 0, 2, 0, 0, 0, 0);
        games("both are", Made.deserted(), 0, 1, 0, 0, 0, 0);
        games("both are", Made.deserted(), 1, 0, 0, 0, 0, 0);
    }
}
