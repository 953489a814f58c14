/** Promises 22 to 35: what comes, who is to go, where to stand; by what one had; whose shares; by turns. */
public final class AsideTest {
    private static final int BAD = FlossRumours.BAD, STATE = FlossRumours.STATE, NONE = FlossRumours.NONE;
    private static final int NOTHING = 1, UNLIKE = 3, NOUGHT = 4, SIZE = 5;
    private static final int LOW = Integer.MIN_VALUE, HIGH = Integer.MAX_VALUE;

    public static void main(String[] args) {
        gathers();
        cloudAndShare();
        first();
        away();
        best();
        least();
        sizes();
        winds();
        kinds();
        next();
        hadRefused();
        setsAndSure();
        duel();
        nothingIsChanged();
        Due.end();
    }

    private static void gathers() {
        FlossRumours x = Due.front("d34 p305 b312 g400 w400 i500 l524");
        int[] clouds = {0, 1, 2, 8, 9, 10, 19, 20, 21, 60};
        int[][] want = {
            {0, 1, 2, 2, 2, 2, 2, 2, 2, 2},
            {0, 1, 2, 2, 2, 2, 2, 2, 2, 2},
            {0, 1, 2, 8, 9, 9, 9, 9, 9, 9},
            {0, 0, 1, 4, 4, 5, 9, 10, 10, 30},
            {0, 1, 2, 2, 2, 2, 2, 2, 2, 2},
            {0, 0, 1, 4, 4, 5, 9, 20, 21, 60}};
        for (int i = 0; i < 6; i++) {
            for (int k = 0; k < clouds.length; k++) {
                Due.is("gathers(" + i + ", " + clouds[k] + ")", x.gathers(i, clouds[k]), want[i][k]);
            }
            Due.is("gathers(.., 61)", x.gathers(i, 61), BAD);
            Due.is("gathers(.., -1)", x.gathers(i, -1), BAD);
        }
        Due.is("gathers(6, 0)", x.gathers(6, 0), BAD);
        Due.is("gathers(-1, 0)", x.gathers(-1, 0), BAD);
        Due.is("no people", new FlossRumours().gathers(0, 0), BAD);
    }

    private static void cloudAndShare() {
        FlossRumours x = new FlossRumours();
        Due.is("cloud, no people", x.cloud(0), STATE);
        Due.is("cloud(41), no people", x.cloud(41), BAD);
        Due.is("share, no people", x.share(0, 0), BAD);
        x = Due.front("d81 p000 g825");
        x.spoon(9);
        x.wind(2);
        // 9; 10 at 9; 11 at 0, 2 gathered; 10 at 1; .. one more each turn till it comes round to 8
        Due.asked(x, "cloud(0)", x.cloud(0), 9, 8);
        Due.asked(x, "cloud(1)", x.cloud(1), 10, 9);
        Due.asked(x, "cloud(2)", x.cloud(2), 9, 0);
        Due.asked(x, "cloud(9)", x.cloud(9), 16, 7);
        Due.asked(x, "cloud(10)", x.cloud(10), 8, 8);
        // each round 10 more, 2 and 9 less
        Due.asked(x, "cloud(40)", x.cloud(40), 5, 8);
        Due.is("share(0, 1)", x.share(0, 1), 0);
        Due.is("share(0, 2)", x.share(0, 2), 2);
        Due.is("share(1, 9)", x.share(1, 9), 25);
        Due.is("share(1, 10)", x.share(1, 10), 30);
        Due.is("share(0, 40)", x.share(0, 40), 8);
        Due.is("share(0, 0)", x.share(0, 0), 0);
        Due.is("cloud(41)", x.cloud(41), BAD);
        Due.is("cloud(-1)", x.cloud(-1), BAD);
        Due.is("share(0, 41)", x.share(0, 41), BAD);
        Due.is("share(0, -1)", x.share(0, -1), BAD);
        Due.is("share(2, 0)", x.share(2, 0), BAD);
        Due.is("share(-1, 0)", x.share(-1, 0), BAD);
        Due.is("asked", x.asked(), 8);
    }

    private static void first() {
        FlossRumours x = Due.front("d00 p300 w900 p030");
        Due.is("no cloud", x.first(2), NONE);
        x.spoon(5);
        Due.is("it has 30", x.first(2), 1);
        x.wind(2);
        Due.is("first(0)", x.first(0), 3);
        Due.is("first(1)", x.first(1), 9);
        Due.is("first(2)", x.first(2), 10);
        x.wind(1);
        Due.is("not there", x.first(0), NONE);
        Due.is("first(3)", x.first(3), BAD);
        Due.is("first(-1)", x.first(-1), BAD);
        Due.is("no people", new FlossRumours().first(0), BAD);
        x = Due.front("d00 w000");
        x.spoon(1);
        Due.is("half of 1 is nothing", x.first(0), NONE);
    }

    private static void away() {
        FlossRumours x = Due.front("d00 g000 g000 p000");
        x.spoon(9);
        Due.asked(x, "both", x.away(2, 2, 1), 2, 3);
        x.spoon(2);
        Due.asked(x, "the least of like sets", x.away(2, 2, 1), 1, 1);
        Due.asked(x, "none need go", x.away(2, 0, 1), 0, 0);
        Due.is("more turns", x.away(2, 4, 2), 2);
        Due.is("it can't be", x.away(2, 3, 1), NONE);
        Due.is("asked", x.asked(), 3);
        for (int n : new int[] {0, 21, LOW, HIGH}) Due.is("away n " + n, x.away(0, 1, n), BAD);
        for (int v : new int[] {-1, 31, LOW, HIGH}) Due.is("away v " + v, x.away(0, v, 1), BAD);
        Due.is("away(3, ..)", x.away(3, 0, 1), BAD);
        Due.is("away(-1, ..)", x.away(-1, 0, 1), BAD);
        Due.is("the limits", x.away(0, 30, 20), NONE);
        x = Due.front("d00 p000 g000");
        x.spoon(9);
        Due.asked(x, "the one behind it, for the turns that come", x.away(0, 4, 2), 1, 2);
        // the one behind the bishop does better with the bishop there, the greedy bag between them must go
        x = Due.front("d00 i000 g000 b000");
        x.spoon(2);
        Due.asked(x, "but not the bishop", x.away(2, 2, 1), 1, 2);
    }

    private static void best() {
        FlossRumours x = Due.front("d00 p503 b200");
        Due.asked(x, "no cloud: the first place", x.best(0, 20), 0, 3);
        Due.spoons(x, 3);
        Due.asked(x, "at the drum", x.best(0, 1), 0, 5);
        x.wind(2);
        Due.asked(x, "one on", x.best(0, 1), 1, 5);
        Due.asked(x, "the first of like ones", x.best(1, 3), 1, 2);
        Due.asked(x, "ahead of the other one", x.best(0, 2), 1, 5);
        Due.is("stands as ever", x.one(0, 1), 1);
        Due.is("asked", x.asked(), 5);
        Due.is("best(2, 1)", x.best(2, 1), BAD);
        Due.is("best(-1, 1)", x.best(-1, 1), BAD);
        Due.is("best(0, 0)", x.best(0, 0), BAD);
        Due.is("best(0, 21)", x.best(0, 21), BAD);
        Due.is("best(0, 20)", x.best(0, 20), 1);
    }

    private static void least() {
        FlossRumours x = new FlossRumours();
        Due.is("no people, no set", x.least(0, 1), STATE);
        Due.is("no people, a set of others", x.least(1, 1), BAD);
        Due.is("no people, n", x.least(0, 0), BAD);
        x = Due.front("d00 w000 p500");
        Due.is("a wasp", x.least(1, 1), 2);
        Due.is("not there", x.least(2, 20), NONE);
        Due.is("nobody", x.least(0, 20), 0);
        Due.is("a set of others", x.least(4, 1), BAD);
        Due.is("a set of others", x.least(-1, 1), BAD);
        Due.is("a set of others", x.least(LOW, 1), BAD);
        Due.is("n", x.least(1, 0), BAD);
        Due.is("n", x.least(1, 21), BAD);
        x = Due.front("d00 g000 g000 g000 g000 p000");
        Due.spoons(x, 6);
        Due.is("31 are too many", x.least(16, 1), NONE);
        x.spoon(1);
        Due.is("30 are not", x.least(16, 1), 30);
        Due.is("all", x.least(31, 1), 30);
        Due.is("the first four", x.least(15, 1), 21);
        Due.is("none needed", x.least(1, 1), 0);
        x = Due.front("d00 p200 b300");
        x.wind(2);
        Due.is("in two turns", x.least(1, 2), 1);
        Due.is("not in one", x.least(1, 1), NONE);
        Due.is("not in two", x.least(3, 2), NONE);
        Due.is("both in three", x.least(3, 3), 3);
        x = Due.front("d00 l000 w000");
        Due.spoons(x, 19);
        Due.is("already", x.least(3, 1), 0);
        x.spoon(9);
        Due.is("a wound girl leaves nothing", x.least(2, 1), NONE);
    }

    private static void sizes() {
        FlossRumours x = Due.front("d00 p000 p500");
        x.spoon(7);
        Due.row(x, 0, 0);
        Due.is("size 0", x.sizes(0, 0), 1);
        Due.is("all sizes", x.sizes(1, 0), HIGH);
        Due.row(x, 0, 1);
        Due.is("size 1", x.sizes(0, 0), 2);
        Due.is("no size", x.sizes(1, 0), 0);
        Due.row(x, 0, 2);
        Due.is("sizes 2 .. 30", x.sizes(0, 0), HIGH - 3);
        Due.row(x, 0, 2, 3, 3);
        Due.is("size 3", x.sizes(0, 0), 8);
        Due.row(x, 0, 2, 4, 6, 8, 10, 12, 14, 16, 18, 20);
        Due.is("sizes 20 .. 30", x.sizes(0, 0), HIGH - ((1 << 20) - 1));
    }

    private static void winds() {
        FlossRumours x = Due.front("d00 p100 g800");
        x.spoon(5);
        Due.row(x, 0, 2);
        Due.is("on", x.winds(0, 0), 4);
        Due.row(x, 0, 0);
        Due.is("back, or it stays", x.winds(0, 0), 3);
        Due.row(x, 0, 0, 5);
        Due.is("back", x.winds(1, 0), 1);
        Due.row(x, 0, 0, 4);
        Due.is("none", x.winds(1, 0), 0);
    }

    private static void kinds() {
        FlossRumours x = Due.front("d00 p004");
        Due.spoons(x, 20);
        int[] had = {6, 13, 14, 24, 5};
        int[] want = {19, 4, 8, 32, 0};
        for (int k = 0; k < had.length; k++) {
            Due.row(x, 0, had[k]);
            Due.is("kinds by " + had[k], x.kinds(0, 0), want[k]);
        }
        x.rain(1);
        Due.row(x, 0, 6);
        Due.is("a beard keeps, a bag has half of 13", x.kinds(0, 0), 2 + 4 + 16);
        Due.row(x, 0, 6, 8, 9);
        // 10: 2 of it; 4: 2 of it; 1: 1 of it, but 3 more each time behind a bishop
        Due.is("a beard", x.kinds(0, 0), 2);
    }

    private static void next() {
        FlossRumours x = Due.front("d00 p000 w000 g500");
        Due.row(x, 0, 2);
        Due.asked(x, "the wasp tells most", x.next(0, 0), 1, 2);
        Due.row(x, 0, 0);
        Due.asked(x, "the first of like ones", x.next(0, 0), 0, 1);
        Due.asked(x, "of the wasp: sizes 0 .. 3", x.next(1, 0), 0, 2);
        Due.asked(x, "of the bag: all sizes", x.next(2, 0), 1, 4);
        Due.row(x, 0, 9);
        Due.is("no size", x.next(0, 0), NONE);
        Due.is("asked", x.asked(), 0);
        x = Due.front("d00 p500 p000");
        Due.row(x, 0, 0);
        Due.asked(x, "sizes 2 .. 30 are alike", x.next(0, 0), 1, 29);
        x = Due.front("d00 p500");
        Due.row(x, 0, 0);
        Due.asked(x, "all sizes are alike", x.next(0, 0), 0, 31);
        x = Due.front("d00 p500 p530 p600 p700 p800 l025");
        Due.row(x, 0, 0);
        // 25 .. 29 by two sizes each, all above is 30: 10 .. 30
        Due.asked(x, "of six", x.next(0, 0), 5, 21);
    }

    private static void hadRefused() {
        FlossRumours x = Due.front("d00 p000");
        x.row(1, 0);
        x.row(2, 11);
        Due.row(x, 3, 0, 31);
        Due.row(x, 4, -1);
        Due.row(x, 5, 0, 0, 0, 0, 0, 0, 0, 0, 0, 0);
        for (int call = 0; call < 4; call++) {
            Due.is("i", had(x, call, 1, 0), BAD);
            Due.is("i", had(x, call, -1, 0), BAD);
            Due.is("r", had(x, call, 0, 6), BAD);
            Due.is("r", had(x, call, 0, -1), BAD);
            Due.is("no people", had(new FlossRumours(), call, 0, 0), BAD);
            Due.finding(x, "no row", had(x, call, 0, 0), NOTHING);
            Due.finding(x, "none", had(x, call, 0, 1), SIZE);
            Due.finding(x, "eleven", had(x, call, 0, 2), SIZE);
            Due.finding(x, "31", had(x, call, 0, 3), UNLIKE);
            Due.finding(x, "-1", had(x, call, 0, 4), UNLIKE);
        }
        x.lay(2, 0, 99);
        Due.finding(x, "SIZE ahead of UNLIKE", x.sizes(0, 2), SIZE);
        Due.is("ten", x.sizes(0, 5), 1);
        Due.row(x, 0, 30);
        Due.is("30 is none too many", x.sizes(0, 0), 0);
    }

    private static int had(FlossRumours x, int call, int i, int r) {
        switch (call) {
            case 0: return x.sizes(i, r);
            case 1: return x.winds(i, r);
            case 2: return x.kinds(i, r);
            default: return x.next(i, r);
        }
    }

    private static void setsAndSure() {
        FlossRumours x = new FlossRumours();
        Due.is("sets, no people", x.sets(0), STATE);
        Due.is("sets(181), no people", x.sets(181), BAD);
        Due.is("sure, no people", x.sure(0), STATE);
        Due.is("sure(-1), no people", x.sure(-1), BAD);
        x = Due.front("d00 p005 p005 p010");
        int[] v = {0, 5, 10, 15, 20};
        int[] many = {1, 2, 2, 2, 1};
        int[] firsts = {0, 1, 3, 5, 7};
        int[] in = {0, 0, 0, 4, 7};
        int[] out = {7, 4, 0, 0, 0};
        for (int k = 0; k < v.length; k++) {
            Due.parts(x, "sets(" + v[k] + ")", x.sets(v[k]), many[k], 1);
            Due.is("the first", x.asked(), firsts[k]);
            Due.asked(x, "sure(" + v[k] + ")", x.sure(v[k]), in[k], out[k]);
        }
        Due.is("sure(5)", x.sure(5), 0);
        Due.finding(x, "sure(7)", x.sure(7), NOUGHT);
        Due.is("asked", x.asked(), 4);
        Due.finding(x, "sure(180)", x.sure(180), NOUGHT);
        Due.parts(x, "sets(7)", x.sets(7), 0, 1);
        Due.is("asked", x.asked(), NONE);
        for (int bad : new int[] {-1, 181, LOW, HIGH}) {
            Due.is("sets(" + bad + ")", x.sets(bad), BAD);
            Due.is("sure(" + bad + ")", x.sure(bad), BAD);
        }
        x = Due.front("d00 p030 b030 g030 w030 i030 l030");
        Due.parts(x, "sets(180)", x.sets(180), 1, 1);
        Due.asked(x, "sure(180)", x.sure(180), 63, 0);
        Due.parts(x, "sets(90)", x.sets(90), 20, 1);
        Due.is("the first", x.asked(), 7);
    }

    private static void duel() {
        FlossRumours x = Due.front("d00 p000 p503");
        x.spoon(9);
        Due.asked(x, "duel(0, 1, 0)", x.duel(0, 1, 0), 1, 3);
        Due.asked(x, "duel(1, 0, 0)", x.duel(1, 0, 0), 1, -3);
        x = Due.front("d00 p100 p900");
        x.spoon(9);
        Due.asked(x, "both go to the drum", x.duel(0, 1, 1), 1, 1);
        Due.asked(x, "the other one begins", x.duel(1, 0, 1), 1, -1);
        x = Due.front("d00 p200 p500");
        x.spoon(9);
        Due.asked(x, "too far", x.duel(0, 1, 1), 1, 0);
        Due.asked(x, "two steps", x.duel(0, 1, 2), 1, 6);
        Due.asked(x, "for the other one", x.duel(1, 0, 2), 1, -6);
        Due.asked(x, "no steps", x.duel(0, 1, 0), 1, 0);
        x = Due.front("d00 p800 p500");
        x.spoon(9);
        Due.asked(x, "too far", x.duel(0, 1, 1), 1, 0);
        Due.asked(x, "two steps", x.duel(0, 1, 2), 1, 6);
        Due.asked(x, "too far for the other one, too", x.duel(1, 0, 1), 1, 0);
        x = Due.front("d00 p900 p500");
        x.spoon(9);
        Due.asked(x, "none of them", x.duel(0, 1, 0), 1, 0);
        Due.asked(x, "one step", x.duel(0, 1, 1), 1, 6);
        // 15 at 9, then 6 more each time at 8 and 7: it is better to see first where the other one goes
        x = Due.front("d06 w900 w800");
        x.spoon(9);
        x.wind(0);
        Due.asked(x, "the first one begins", x.duel(0, 1, 1), 1, 0);
        Due.asked(x, "the other one begins", x.duel(1, 0, 1), 1, -2);
        // the bag ahead in number starves the wasp
        x = Due.front("d00 g900 w100");
        x.spoon(9);
        Due.asked(x, "the bag takes all", x.duel(1, 0, 1), 1, -9);
        Due.is("duel(0, 0, ..)", x.duel(0, 0, 1), BAD);
        Due.is("duel(0, 2, ..)", x.duel(0, 2, 1), BAD);
        Due.is("duel(-1, 0, ..)", x.duel(-1, 0, 1), BAD);
        Due.is("duel(.., 3)", x.duel(0, 1, 3), BAD);
        Due.is("duel(.., -1)", x.duel(0, 1, -1), BAD);
        Due.is("no people", new FlossRumours().duel(0, 1, 0), BAD);
        Due.is("asked", x.asked(), -9);
        x = Due.front("d00 p000 p500");
        Due.is("of one kind", x.duel(0, 1, 0), 1);
    }

    private static void nothingIsChanged() {
        FlossRumours x = Due.front("d34 p305 b312 g400 w400 i500 l524");
        x.spoon(9);
        x.wind(2);
        x.turn();
        x.rain(1);
        Due.row(x, 0, 5);
        long before = x.digest();
        x.gathers(0, 9);
        x.cloud(40);
        x.share(1, 40);
        x.first(2);
        x.away(5, 30, 20);
        x.best(3, 20);
        x.least(63, 20);
        x.sizes(0, 0);
        x.winds(0, 0);
        x.kinds(0, 0);
        x.next(0, 0);
        x.sets(9);
        x.sure(9);
        x.duel(0, 5, 2);
        x.odds(0, 5);
        x.mid(5);
        Due.is("digest", x.digest(), before);
        Due.is("deeds", x.count(6), 4);
    }
}
