/** Promises 39 to 44: waits, odds, games. */
public final class OddsTest {
    public static void main(String[] args) {
        Check check = new Check("OddsTest");
        waits(check);
        chance(check);
        stale(check);
        share(check);
        games(check);
        check.end();
    }

    private static void waits(Check check) {
        LoafTable x = Check.laid("guest a wish 0 bears 0 dear 20;guest b wish 0 bears 0 dear 0;guest c wish 9 bears 0 dear 3;");
        check.fraction("waits(0, 1)", x, x.waits(0, 1), 1, 1);
        check.fraction("waits(1, 0)", x, x.waits(1, 0), 1, 21);
        check.fraction("waits(0, 2)", x, x.waits(0, 2), 1, 4);
        x.day(1);
        check.fraction("for one who is GONE", x, x.waits(0, 2), 1, 4);
        check.not("waits(0, 0)", x, x.waits(0, 0), 1);
        check.not("waits(3, 0)", x, x.waits(3, 0), 1);
        check.not("waits(0, 3)", x, x.waits(0, 3), 1);
        check.not("waits(-1, 0)", x, x.waits(-1, 0), 1);
        check.due("top() stays", x.top(), 1);
        check.due("bottom() stays", x.bottom(), 4);
    }

    private static void chance(Check check) {
        LoafTable x = new LoafTable();
        check.fraction("chance(0, 0)", x, x.chance(0, 0), 1, 1);
        check.fraction("chance(0, 1)", x, x.chance(0, 1), 0, 1);
        check.fraction("chance(6, 0)", x, x.chance(6, 0), 1, 1);
        check.fraction("chance(6, 6)", x, x.chance(6, 6), 1, 46656);
        check.fraction("chance(6, 5)", x, x.chance(6, 5), 31, 46656);
        check.fraction("chance(6, 1)", x, x.chance(6, 1), 31031, 46656);
        check.fraction("chance(2, 2)", x, x.chance(2, 2), 1, 36);
        check.fraction("chance(3, 2)", x, x.chance(3, 2), 2, 27);
        check.fraction("chance(2, 3)", x, x.chance(2, 3), 0, 1);
        check.not("chance(7, 0)", x, x.chance(7, 0), 1);
        check.not("chance(-1, 0)", x, x.chance(-1, 0), 1);
        check.not("chance(0, 7)", x, x.chance(0, 7), 1);
        check.not("chance(0, -1)", x, x.chance(0, -1), 1);
    }

    private static void stale(Check check) {
        LoafTable x = new LoafTable();
        check.fraction("stale(0)", x, x.stale(0), 1, 1);
        check.fraction("stale(1)", x, x.stale(1), 3, 4);
        check.fraction("stale(12)", x, x.stale(12), 531441, 16777216);
        x.rule(1, 16);
        check.fraction("somebody always does", x, x.stale(3), 0, 1);
        check.fraction("on no DAYS", x, x.stale(0), 1, 1);
        x.rule(1, 0);
        check.fraction("nobody ever", x, x.stale(12), 1, 1);
        x.rule(1, 1);
        check.fraction("15 of 16", x, x.stale(12), 129746337890625L, 281474976710656L);
        check.not("stale(13)", x, x.stale(13), 1);
        check.not("stale(-1)", x, x.stale(-1), 1);
    }

    private static void share(Check check) {
        LoafTable x = Check.laid("guest a wish 0 bears 0 dear 4;guest b wish 0 bears 0 dear 8;guest c wish 0 bears 0 dear 0;");
        check.fraction("share(0)", x, x.share(0), 1, 3);
        check.fraction("share(1)", x, x.share(1), 2, 3);
        check.fraction("share(2)", x, x.share(2), 0, 1);
        check.not("share(3)", x, x.share(3), 1);
        check.not("share(-1)", x, x.share(-1), 1);
        x.bake(1);
        x.cut(0);
        check.fraction("of those THERE", x, x.share(1), 1, 1);
        check.not("he is GONE", x, x.share(0), 7);
        x.day(1);
        x.cut(1);
        check.not("nothing is", x, x.share(2), 6);
        check.not("6 ahead of 7", x, x.share(0), 6);
    }

    /** All hunger and wish alike: a cuts on day 6; who is passed the butter does on day 4, of two the first. */
    private static void games(Check check) {
        LoafTable x = Check.laid("press 1;loaf 60;guest a wish 0 bears 20 dear 0;guest b wish 0 bears 20 dear 0;guest c wish 0 bears 20 dear 0;");
        game(check, x, 0, 1, 0, 1);
        game(check, x, 1, 0, 0, -1);
        game(check, x, 1, 2, 0, 0);
        game(check, x, 1, 0, 1, 1);
        check.due("a has b go", x.moveOf(1, 0, 1), 0);
        game(check, x, 2, 0, 1, 1);
        check.due("a has c go", x.moveOf(2, 0, 1), 0);
        game(check, x, 1, 0, 2, -1);
        check.due("all are as good", x.moveOf(1, 0, 2), 0);
        game(check, x, 1, 0, 3, -1);
        game(check, x, 0, 1, 1, 1);
        check.due("the first who is not he", x.moveOf(0, 1, 1), 1);
        game(check, x, 0, 1, 3, 1);
        check.due("nothing changes", x.told(8) * 1000 + x.told(6), 7000);
        check.none("nobody is passed anything", x, x.guest(0, 6), 6);
        check.none("moveOf(0, 1, 0)", x, x.moveOf(0, 1, 0), 1);
        check.none("moveOf(0, 1, 4)", x, x.moveOf(0, 1, 4), 1);
        check.none("moveOf(0, 0, 1)", x, x.moveOf(0, 0, 1), 1);
        check.none("game(0, 1, 4)", x, x.game(0, 1, 4), 1);
        check.none("game(0, 1, -1)", x, x.game(0, 1, -1), 1);
        check.none("game(0, 0, 1)", x, x.game(0, 0, 1), 1);
        check.none("game(3, 0, 1)", x, x.game(3, 0, 1), 1);
        check.none("game(0, 3, 1)", x, x.game(0, 3, 1), 1);
        x.bake(20);
        x.cut(1);
        game(check, x, 0, 1, 0, -1);
        game(check, x, 1, 0, 0, 1);
        game(check, x, 1, 0, 2, 1);
        x.butter(0, 1);
        check.due("one who passes it to him already is as good", x.moveOf(1, 0, 1), 0);
        x.day(10);
        x.cut(2);
        check.none("nobody but he is THERE: nothing", x, x.moveOf(0, 1, 1), 6);
        passedElsewhere(check);
    }

    private static void passedElsewhere(Check check) {
        LoafTable x = Check.laid("press 1;resolve 12;loaf 60;guest a wish 0 bears 20 dear 0;guest b wish 3 bears 20 dear 0;"
            + "guest c wish 0 bears 20 dear 0;butter c b;");
        game(check, x, 1, 0, 1, 1);
        LoafTable y = Check.laid("press 2;resolve 12;loaf 60;guest a wish 3 bears 20 dear 0;guest b wish 4 bears 20 dear 0;"
            + "guest c wish 0 bears 20 dear 0;butter b a;butter c a;");
        game(check, y, 0, 1, 1, 1);
        check.due("b, who does so already", y.moveOf(0, 1, 1), 1);
        game(check, y, 1, 0, 1, 1);
        check.due("c passes it to b in place of a, who is pressed no more", y.moveOf(1, 0, 1), 2);
    }

    private static void game(Check check, LoafTable x, int guest, int other, int n, int want) {
        String what = "game(" + guest + ", " + other + ", " + n + ")";
        check.due(what, x.game(guest, other, n), want);
        check.due(what + ": status", x.status(), 0);
    }
}
