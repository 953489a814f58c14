import java.util.function.Supplier;
import java.util.function.ToIntFunction;

/** Each sentence of promises 22 to 35 that names a boundary case, by itself. */
public final class EdgesOfAsideTest {
    private static final int BAD = Edges.BAD, STATE = Edges.STATE, NONE = Edges.NONE;
    private static final int NOTHING = Edges.NOTHING, UNLIKE = Edges.UNLIKE, NOUGHT = Edges.NOUGHT, SIZE = Edges.SIZE;
    private static final int LOW = Edges.LOW, HIGH = Edges.HIGH;

    public static void main(String[] args) {
        gathers();
        cloud();
        share();
        first();
        away();
        best();
        least();
        leastRefused();
        sizes();
        winds();
        kinds();
        next();
        had();
        sets();
        sure();
        duel();
        duelRefused();
        Due.end();
    }

    /** All of PEOPLE from -1 on that are none, each with BAD: of six, of two, of nobody. */
    private interface OfOne {
        int on(FlossRumours x, int i);
    }

    private static void nobody(String call, OfOne of) {
        for (int i : new int[] {-1, 6, LOW, HIGH}) Edges.refused(Edges::people, call + " of " + i, x -> of.on(x, i), BAD);
        Edges.refused(Edges::full, call + " of 2, of two", x -> of.on(x, 2), BAD);
        Edges.refused(Edges::bare, call + " of 0, of none", x -> of.on(x, 0), BAD);
    }

    private static void numbers(String call, OfOne of, int... none) {
        for (int n : none) Edges.refused(Edges::people, call + " by " + n, x -> of.on(x, n), BAD);
    }

    /** What is asked aside changes nothing but what is told. */
    private static void aside(String call, ToIntFunction<FlossRumours> does) {
        FlossRumours x = Edges.people();
        FlossRumours twin = Edges.people();
        does.applyAsInt(x);
        Due.is(call + ", then digest()", x.digest(), twin.digest());
        Due.is(call + ", then finding()", x.finding(), twin.finding());
        Due.is(call + ", then turn()", x.turn(), twin.turn());
        Due.is(call + ", then turn(), digest()", x.digest(), twin.digest());
        Due.is(call + ", then undo(0)", x.undo(0), twin.undo(0));
        Due.is(call + ", then undo(0), digest()", x.digest(), twin.digest());
    }

    private static void gathers() {
        Due.says("Promise 22", "How much one would GATHER of a CLOUD (0 .. 60)");
        FlossRumours x = Edges.people();
        int[] ofOne = {1, 1, 1, 0, 1, 0};
        int[] ofSixty = {2, 2, 9, 30, 2, 60};
        for (int i = 0; i < 6; i++) {
            Due.is("gathers(" + i + ", 0)", x.gathers(i, 0), 0);
            Due.is("gathers(" + i + ", 1)", x.gathers(i, 1), ofOne[i]);
            Due.is("gathers(" + i + ", 60)", x.gathers(i, 60), ofSixty[i]);
        }
        Due.is("nothing is told", x.asked(), 777);
        aside("gathers(5, 60)", y -> y.gathers(5, 60));
        Due.says("Promise 22", "BAD");
        nobody("gathers", (y, i) -> y.gathers(i, 5));
        for (int i = 0; i < 6; i++) {
            int one = i;
            numbers("gathers of " + i, (y, cloud) -> y.gathers(one, cloud), -1, 61, LOW, HIGH);
        }
    }

    private static void cloud() {
        Due.says("Promise 23", "The CLOUD behind n (0 .. 40) TURNS; its PLACE then by asked()");
        FlossRumours x = Due.front("d81 p000 g825");
        Due.asked(x, "no cloud", x.cloud(40), 0, 8);
        x.spoon(9);
        x.wind(2);
        Due.asked(x, "cloud(0)", x.cloud(0), 9, 8);
        Due.asked(x, "cloud(1)", x.cloud(1), 10, 9);
        Due.asked(x, "cloud(2): round", x.cloud(2), 9, 0);
        // 10 more each round, 2 and 9 less
        Due.asked(x, "cloud(39)", x.cloud(39), 13, 7);
        Due.asked(x, "cloud(40)", x.cloud(40), 5, 8);
        for (int k = 2; k < 40; k++) x.turn();
        Due.asked(x, "cloud(0), forty deeds", x.cloud(0), x.count(1), x.count(2));
        Due.asked(x, "forty turns come behind forty deeds", x.cloud(2), 5, 8);
        aside("cloud(40)", y -> y.cloud(40));
        Due.says("Promise 23", "BAD");
        numbers("cloud", (y, n) -> y.cloud(n), -1, 41, LOW, HIGH);
        Due.says("Promise 23", "STATE: no PEOPLE");
        Edges.refused(Edges::bare, "cloud(0)", y -> y.cloud(0), STATE);
        Edges.refused(Edges::bare, "cloud(40)", y -> y.cloud(40), STATE);
    }

    private static void share() {
        Due.says("Promise 24", "What one HAS behind n (0 .. 40) TURNS");
        FlossRumours x = Due.front("d81 p000 g825");
        x.spoon(9);
        x.wind(2);
        int[] turns = {0, 1, 2, 11, 12, 31, 32, 40};
        int[] has = {0, 0, 2, 2, 4, 6, 8, 8};
        for (int k = 0; k < turns.length; k++) Due.is("share(0, " + turns[k] + ")", x.share(0, turns[k]), has[k]);
        Due.is("share(1, 9)", x.share(1, 9), 25);
        Due.is("share(1, 10)", x.share(1, 10), 30);
        Due.is("share(1, 40)", x.share(1, 40), 30);
        x = Due.front("d80 p000 p130");
        x.wind(2);
        Due.spoons(x, 60);
        Due.is("share(0, 39)", x.share(0, 39), 8);
        x.stand(0, 8);
        Due.is("share(0, 39)", x.share(0, 39), 6);
        Due.is("share(0, 40)", x.share(0, 40), 8);
        x.rain(1);
        // half, half, then 2 more of the cloud and half
        int[] inRain = {30, 15, 7, 4, 2, 1, 0};
        for (int n = 0; n < inRain.length; n++) Due.is("in rain share(1, " + n + ")", x.share(1, n), inRain[n]);
        aside("share(0, 40)", y -> y.share(0, 40));
        Due.says("Promise 24", "BAD");
        nobody("share", (y, i) -> y.share(i, 0));
        numbers("share", (y, n) -> y.share(0, n), -1, 41, LOW, HIGH);
    }

    private static void first() {
        Due.says("Promise 25", "In how many TURNS (1 .. 40) one GATHERS something first");
        FlossRumours x = Due.front("d00 p000 w100 p900 w000 i000");
        x.spoon(9);
        Due.is("in the next one", x.first(0), 1);
        x.wind(2);
        Due.is("one on", x.first(1), 1);
        Due.is("nine on", x.first(2), 9);
        Due.is("all round", x.first(0), 10);
        x.wind(0);
        Due.is("one back", x.first(2), 1);
        Due.is("nine back", x.first(1), 9);
        x = Due.front("d00 w000 i000");
        x.spoon(1);
        x.wind(2);
        // behind ten the wasp has no half of 1, but behind the bishop it is 3, and comes round again
        Due.is("the bishop", x.first(1), 10);
        Due.is("the second time round", x.first(0), 20);
        Due.is("it is next", Edges.people().first(4), 1);
        Due.says("Promise 25", "NONE: in none of these");
        x = Due.front("d00 p000 p500 w000");
        Due.is("no cloud", x.first(0), NONE);
        x.spoon(2);
        Due.is("not there", x.first(1), NONE);
        Due.is("nothing is left", x.first(2), NONE);
        x = Due.front("d00 w000 p600");
        x.spoon(1);
        Due.is("half of 1", x.first(0), NONE);
        x.wind(2);
        x.rain(1);
        Due.is("it is gone by then", x.first(1), NONE);
        Due.is("nothing is told", x.asked(), 0);
        aside("first(0)", y -> y.first(0));
        Due.says("Promise 25", "BAD");
        nobody("first", (y, i) -> y.first(i));
    }

    private static void away() {
        Due.says("Promise 26", "The fewest others to be sent away now (they GATHER nothing)");
        FlossRumours x = Due.front("d00 g000 g000 g000 g000 g000 p000");
        x.spoon(9);
        Due.asked(x, "all others", x.away(5, 1, 1), 5, 31);
        Due.asked(x, "none", x.away(0, 9, 1), 0, 0);
        x = Due.front("d00 p000 g000");
        x.spoon(9);
        Due.asked(x, "away in all turns", x.away(0, 6, 3), 1, 2);
        x = Due.front("d00 i000 p000");
        x.spoon(2);
        Due.asked(x, "nor does a bishop who is away breathe", x.away(1, 2, 1), 0, 0);
        Due.is("but itself can't go", x.away(1, 3, 1), NONE);
        Due.says("Promise 26", "so that one HAS v (0 .. 30) or more");
        x = Due.front("d00 p028 p500");
        Due.spoons(x, 10);
        Due.asked(x, "v 0", x.away(1, 0, 20), 0, 0);
        Due.asked(x, "v 30", x.away(0, 30, 1), 0, 0);
        Due.asked(x, "v 29: more will do", x.away(0, 29, 1), 0, 0);
        x = Due.front("d00 p027");
        x.spoon(9);
        Due.is("v 30: just too few", x.away(0, 30, 1), NONE);
        Due.says("Promise 26", "behind n (1 .. 20) TURNS");
        x = Due.front("d00 p000");
        x.spoon(9);
        x.wind(2);
        Due.is("n 1", x.away(0, 1, 1), NONE);
        Due.is("n 9", x.away(0, 2, 9), NONE);
        Due.is("n 10", x.away(0, 2, 10), 0);
        Due.is("n 19", x.away(0, 4, 19), NONE);
        Due.is("n 20", x.away(0, 4, 20), 0);
        Due.says("Promise 26", "of like ones the least set of them by asked()");
        x = Due.front("d00 g000 g000 g000 p000");
        Due.spoons(x, 18);
        Due.asked(x, "two of three", x.away(3, 1, 1), 2, 3);
        x.spoon(9);
        Due.asked(x, "one of three", x.away(3, 1, 1), 1, 1);
        x = Due.front("d00 p000 p000 g000 b000");
        x.spoon(4);
        Due.asked(x, "the bag, or both ahead of it", x.away(2, 4, 1), 2, 3);
        Due.asked(x, "two, but not the first two", x.away(3, 1, 1), 2, 5);
        Due.says("Promise 26", "NONE: it can't be");
        Due.is("more than there is", x.away(2, 5, 1), NONE);
        Due.is("asked() is as it was", x.asked(), 5);
        Due.is("no cloud", Due.front("d00 p000").away(0, 1, 20), NONE);
        aside("away(5, 30, 20)", y -> y.away(5, 30, 20));
        Due.says("Promise 26", "BAD");
        nobody("away", (y, i) -> y.away(i, 0, 1));
        numbers("away v", (y, v) -> y.away(0, v, 1), -1, 31, LOW, HIGH);
        numbers("away n", (y, n) -> y.away(0, 0, n), 0, -1, 21, LOW, HIGH);
    }

    private static void best() {
        Due.says("Promise 27", "The PLACE (0 .. 9; the first) at which to stand now");
        FlossRumours x = Due.front("d90 p503");
        Due.asked(x, "all places are alike", x.best(0, 20), 0, 3);
        x.spoon(9);
        Due.asked(x, "the last place", x.best(0, 1), 9, 5);
        x.wind(2);
        Due.asked(x, "round to the first", x.best(0, 1), 0, 5);
        x.wind(0);
        Due.asked(x, "the first of two alike", x.best(0, 2), 7, 5);
        Due.one(x, 0, 1, 5);
        Due.says("Promise 27", "so that one HAS most behind n (1 .. 20) TURNS; how much by asked()");
        x = Due.front("d50 p000");
        x.spoon(9);
        x.wind(2);
        Due.asked(x, "n 1", x.best(0, 1), 6, 2);
        Due.asked(x, "n 10", x.best(0, 10), 0, 2);
        Due.asked(x, "n 11", x.best(0, 11), 6, 4);
        Due.asked(x, "n 19", x.best(0, 19), 0, 4);
        Due.asked(x, "n 20", x.best(0, 20), 0, 4);
        x = Due.front("d09 g029");
        x.spoon(9);
        Due.asked(x, "30 at most", x.best(0, 20), 0, 30);
        x = Due.front("d34 b130 p100");
        x.spoon(9);
        Due.asked(x, "where it has 30 anyway", x.best(0, 20), 0, 30);
        x.rain(1);
        Due.asked(x, "in rain nothing is left", x.best(1, 20), 0, 0);
        aside("best(0, 20)", y -> y.best(0, 20));
        Due.says("Promise 27", "BAD");
        nobody("best", (y, i) -> y.best(i, 1));
        numbers("best", (y, n) -> y.best(0, n), 0, -1, 21, LOW, HIGH);
    }

    private static void least() {
        Due.says("Promise 28", "The least SPOON (0 .. 30");
        FlossRumours x = Due.front("d00 g000 g000 g000 g000 p000");
        Due.is("one will do", x.least(1, 1), 1);
        Due.spoons(x, 6);
        Due.is("none is needed", x.least(1, 1), 0);
        Due.is("31 would be needed", x.least(16, 1), NONE);
        x.spoon(1);
        Due.is("30 will do", x.least(16, 1), 30);
        x.spoon(9);
        Due.is("21 will do", x.least(16, 1), 21);
        Due.says("Promise 28", "60 at most in all)");
        // in rain 60 is gone before it comes to place 6, 64 would not be
        x = Due.front("d00 p600 p500");
        Due.spoons(x, 50);
        x.wind(2);
        x.rain(1);
        Due.is("64 would be needed", x.least(1, 20), NONE);
        Due.is("32 will do", x.least(2, 20), 0);
        x = Due.front("d00 p600 p500");
        Due.spoons(x, 31);
        x.wind(2);
        x.rain(1);
        Due.is("32 will do", x.least(2, 20), 1);
        Due.is("31 and 30 are 60", x.least(1, 20), NONE);
        x = Due.front("d00 p600");
        Due.spoons(x, 60);
        Due.is("it is 60", x.least(1, 20), NONE);
        Due.says("Promise 28", "each one of a set of PEOPLE GATHERS something");
        x = Due.front("d00 p000 w000 p500");
        Due.is("nobody", x.least(0, 1), 0);
        Due.is("the first", x.least(1, 1), 1);
        Due.is("both at the drum", x.least(3, 1), 4);
        Due.is("all", x.least(7, 1), NONE);
        x = Due.front("d00 p000 p000 p000 p000 p000 p000");
        Due.is("all six", x.least(63, 1), 11);
        Due.says("Promise 28", "in the next n (1 .. 20) TURNS");
        x = Due.front("d00 w000 i000 p100");
        x.wind(2);
        Due.is("n 1", x.least(4, 1), 1);
        Due.is("n 9", x.least(2, 9), NONE);
        Due.is("n 10: 2 go to the one between", x.least(2, 10), 3);
        x = Due.front("d00 w000 i000");
        x.wind(2);
        Due.is("n 19: the wasp by the first time round", x.least(1, 19), 2);
        Due.is("n 20: by the second", x.least(1, 20), 1);
        Due.says("Promise 28", "NONE: by none");
        Due.is("not there", Due.front("d00 p500").least(1, 20), NONE);
        x = Due.front("d09 l000 p000");
        Due.spoons(x, 10);
        Due.is("the girl takes half of 19", x.least(2, 1), 0);
        x.spoon(1);
        Due.is("the girl takes all of 20, or more", x.least(2, 20), NONE);
        aside("least(63, 20)", y -> y.least(63, 20));
    }

    private static void leastRefused() {
        Due.says("Promise 28", "BAD");
        numbers("least", (y, n) -> y.least(1, n), 0, -1, 21, LOW, HIGH);
        Due.says("Promise 28", "BAD: also a set of others");
        numbers("least", (y, set) -> y.least(set, 1), -1, 64, 65, LOW, HIGH);
        Edges.refused(Edges::full, "least(4, 1) of two", y -> y.least(4, 1), BAD);
        Edges.refused(Edges::full, "least(5, 1) of two", y -> y.least(5, 1), BAD);
        Due.is("least(3, 1) of two", Edges.full().least(3, 1) >= 0 ? 1 : 0, 1);
        Due.says("Promise 28", "STATE: no PEOPLE");
        Edges.refused(Edges::bare, "least(0, 1)", y -> y.least(0, 1), STATE);
        Edges.refused(Edges::bare, "least(0, 20)", y -> y.least(0, 20), STATE);
        Due.says("Promise 28", "(STATE last.)");
        Edges.refused(Edges::bare, "least(1, 1)", y -> y.least(1, 1), BAD);
        Edges.refused(Edges::bare, "least(-1, 1)", y -> y.least(-1, 1), BAD);
        Edges.refused(Edges::bare, "least(0, 0)", y -> y.least(0, 0), BAD);
        Edges.refused(Edges::bare, "least(0, 21)", y -> y.least(0, 21), BAD);
    }

    private static void sizes() {
        Due.says("Promise 29", "Of which sizes (bits 0 .. 30) the CLOUD can be now by these, all else as it is");
        FlossRumours x = Due.front("d00 g000 g000 g000 g000");
        Due.row(x, 0, 3);
        Due.is("30 alone", x.sizes(3, 0), 1 << 30);
        Due.row(x, 0, 4);
        Due.is("31 is none of these", x.sizes(3, 0), 0);
        Due.row(x, 0, 1);
        Due.is("28", x.sizes(3, 0), 1 << 28);
        Due.is("1", x.sizes(0, 0), 2);
        Due.spoons(x, 60);
        Due.is("whatever it is now", x.sizes(0, 0), 2);
        Due.says("Promise 29", "what one HAS behind 1, 2, .. TURNS from now on");
        x = Due.front("d00 p005");
        x.spoon(9);
        x.turn();
        Due.row(x, 0, 9, 11, 13, 15, 17, 19, 21, 23, 25, 27);
        Due.is("ten times 2", x.sizes(0, 0), HIGH - ((1 << 20) - 1));
        x.lay(0, 9, 26);
        Due.is("1 at last", x.sizes(0, 0), 1 << 19);
        x.lay(0, 0, 7);
        Due.is("2 from the first turn on", x.sizes(0, 0), 0);
        Due.says("Promise 29", "(0: at the DRUM)");
        x = Due.front("d00 p100 p000");
        x.spoon(9);
        x.wind(2);
        x.turn();
        x.wind(1);
        Due.cloud(x, 7, 1);
        Due.row(x, 0, 2);
        Due.is("0: it has no more", x.sizes(0, 0), 1);
        Due.row(x, 0, 3);
        Due.is("1, where it is", x.sizes(0, 0), 2);
        Due.row(x, 0, 0);
        Due.is("it can be of all sizes", x.sizes(1, 0), HIGH);
        aside("sizes", y -> y.row(0, 1) + y.sizes(0, 0) + y.tear(0));
    }

    private static void winds() {
        Due.says("Promise 30", "Which WINDS (bits 0 .. 2) there can be by these, all else as it is");
        FlossRumours x = Due.front("d00 p900 p000 p100 p500");
        x.spoon(9);
        for (int i = 0; i < 3; i++) {
            Due.row(x, 0, 2);
            Due.is("wind " + i + " alone", x.winds(i, 0), 1 << i);
            Due.row(x, 0, 0);
            Due.is("the others", x.winds(i, 0), 7 - (1 << i));
            Due.row(x, 0, 1);
            Due.is("none", x.winds(i, 0), 0);
        }
        Due.row(x, 0, 0);
        Due.is("all", x.winds(3, 0), 7);
        Due.row(x, 0, 0, 0, 0, 0, 2);
        Due.is("round both ways", x.winds(3, 0), 5);
        aside("winds", y -> y.row(0, 1) + y.winds(0, 0) + y.tear(0));
    }

    private static void kinds() {
        Due.says("Promise 31", "Of which KINDS (bits) one can be by these, all else as it is");
        FlossRumours x = Due.front("d00 g004 p500");
        Due.row(x, 0, 4);
        Due.is("all", x.kinds(0, 0), 63);
        Due.spoons(x, 20);
        Due.is("none", x.kinds(0, 0), 0);
        int[] had = {6, 13, 14, 24};
        int[] want = {1 + 2 + 16, 4, 8, 32};
        for (int k = 0; k < had.length; k++) {
            Due.row(x, 0, had[k]);
            Due.is("kinds by " + had[k], x.kinds(0, 0), want[k]);
        }
        x = Due.front("d00 p004");
        x.rain(1);
        Due.row(x, 0, 4);
        Due.is("those whom rain leaves all", x.kinds(0, 0), 2 + 16);
        aside("kinds", y -> y.row(0, 1) + y.kinds(0, 0) + y.tear(0));
    }

    private static void next() {
        Due.says("Promise 32", "Whom of PEOPLE (the first) to ask");
        FlossRumours x = Due.front("d00 p500 p500 p500 p500 p500 p500");
        Due.row(x, 0, 0);
        Due.asked(x, "all are alike", x.next(3, 0), 0, 31);
        x.stand(5, 0);
        Due.asked(x, "the last tells more", x.next(0, 0), 5, 29);
        x.stand(2, 0);
        x.stand(5, 5);
        Due.asked(x, "the third", x.next(0, 0), 2, 29);
        Due.says("Promise 32", "the greatest part by which it HAS as much is least; that part by asked()");
        Due.asked(x, "one size alone", x.next(2, 0), 0, 1);
        x = Due.front("d00 p500 l025");
        // 25 .. 29 by two sizes each, 30 by 10 to 30
        Due.asked(x, "30 at most", Edges.with(x, y -> y.row(0, 1)).next(0, 0), 1, 21);
        x = Due.front("d00 p500 l000 b000");
        Due.row(x, 0, 0);
        // 0 .. 9 by two sizes each, 20 .. 30 each by itself
        Due.asked(x, "the girl", x.next(0, 0), 1, 2);
        Due.says("Promise 32", "NONE: there is no size");
        Due.row(x, 0, 1);
        Due.is("next(0, 0)", x.next(0, 0), NONE);
        Due.is("asked() is as it was", x.asked(), 0);
        Edges.with(x, y -> y.at(0, 0));
        Due.is("next(0, 0)", x.next(0, 0), NONE);
        Due.is("asked() is as it was", x.asked(), 1);
        aside("next", y -> y.row(0, 1) + y.next(0, 0) + y.tear(0));
    }

    /** People, and ROWS: 0 of none, 1 of eleven 0, 2 of a -1 behind a 0, 3 of a 31 behind nine 0, 4 of eleven 31. */
    private static FlossRumours withHad() {
        FlossRumours x = Edges.people();
        x.row(0, 0);
        x.row(1, 11);
        Due.row(x, 2, 0, -1);
        Due.row(x, 3, 0, 0, 0, 0, 0, 0, 0, 0, 0, 31);
        x.row(4, 11);
        x.lay(4, 0, 31);
        x.at(5, 0);
        return x;
    }

    private interface OfHad {
        int on(FlossRumours x, int i, int r);
    }

    private static void had() {
        hadOf("Promise 29", "sizes", (x, i, r) -> x.sizes(i, r));
        hadOf("Promise 30", "winds", (x, i, r) -> x.winds(i, r));
        hadOf("Promise 31", "kinds", (x, i, r) -> x.kinds(i, r));
        hadOf("Promise 32", "next", (x, i, r) -> x.next(i, r));
    }

    private static void hadOf(String where, String call, OfHad of) {
        Supplier<FlossRumours> made = EdgesOfAsideTest::withHad;
        Due.says(where, "a ROW of 1 to 10 ints");
        FlossRumours x = Edges.people();
        x.row(0, 1);
        Due.is(call + " by one", of.on(x, 0, 0) != FlossRumours.FINDING ? 1 : 0, 1);
        x.row(0, 10);
        Due.is(call + " by ten", of.on(x, 0, 0) != FlossRumours.FINDING ? 1 : 0, 1);
        Due.says(where, "0 .. 30");
        for (int v : new int[] {0, 30}) {
            x.lay(0, 9, v);
            Due.is(call + " by " + v, of.on(x, 0, 0) != FlossRumours.FINDING ? 1 : 0, 1);
        }
        Due.says(where, "BAD");
        nobody(call, (y, i) -> of.on(y, i, 5));
        for (int r : new int[] {-1, 6, LOW, HIGH}) Edges.refused(made, call + "(0, " + r + ")", y -> of.on(y, 0, r), BAD);
        Due.says(where, "NOTHING");
        Edges.found(() -> Edges.with(withHad(), y -> y.tear(0)), call + "(0, 0)", y -> of.on(y, 0, 0), NOTHING);
        Due.says(where, "SIZE");
        Edges.found(made, call + " by none", y -> of.on(y, 0, 0), SIZE);
        Edges.found(made, call + " by eleven", y -> of.on(y, 0, 1), SIZE);
        Edges.found(made, call + " by eleven, one of them 31", y -> of.on(y, 0, 4), SIZE);
        Edges.found(() -> Edges.with(withHad(), y -> y.row(0, 40)), call + " by forty", y -> of.on(y, 0, 0), SIZE);
        Due.says(where, "UNLIKE: not 0 .. 30");
        Edges.found(made, call + " by -1", y -> of.on(y, 0, 2), UNLIKE);
        Edges.found(made, call + " by 31", y -> of.on(y, 0, 3), UNLIKE);
        Edges.found(made, call + " by 777", y -> of.on(y, 0, 5), UNLIKE);
        Edges.found(() -> Edges.with(withHad(), y -> y.lay(5, 0, LOW)), call + " by LOW",
            y -> of.on(y, 0, 5), UNLIKE);
        Due.says(where, "behind BAD");
        for (int r = 0; r <= 4; r++) {
            int row = r;
            Edges.refused(made, call + "(6, " + r + ")", y -> of.on(y, 6, row), BAD);
        }
    }

    private static void sets() {
        Due.says("Promise 33", "How many sets of PEOPLE HAVE v (0 .. 180) together, told by upper() (lower() is 1)");
        FlossRumours x = Due.front("d00 p030 b030 g030 w030 i030 l030");
        Due.parts(x, "sets(0): nobody", x.sets(0), 1, 1);
        Due.parts(x, "sets(180)", x.sets(180), 1, 1);
        Due.parts(x, "sets(179)", x.sets(179), 0, 1);
        Due.parts(x, "sets(90)", x.sets(90), 20, 1);
        x.odds(0, 5);
        Due.parts(x, "sets(30)", x.sets(30), 6, 1);
        x = Due.front("d00 p000 b000 g000 w000 i000 l000");
        Due.parts(x, "sets(0): all of them", x.sets(0), 64, 1);
        Due.parts(x, "sets(1)", x.sets(1), 0, 1);
        Due.says("Promise 33", "the first by asked() (bits; NONE): 1");
        Due.asked(x, "sets(0): nobody", x.sets(0), 1, 0);
        Due.asked(x, "sets(1)", x.sets(1), 1, NONE);
        x = Due.front("d00 p005 p010 p015 p015");
        Due.asked(x, "the first two", x.sets(15), 1, 3);
        Due.asked(x, "the first and one more", x.sets(20), 1, 5);
        Due.asked(x, "all", x.sets(45), 1, 15);
        Due.asked(x, "more than all", x.sets(46), 1, NONE);
        aside("sets(24)", y -> y.sets(24));
        Due.says("Promise 33", "BAD");
        numbers("sets", (y, v) -> y.sets(v), -1, 181, LOW, HIGH);
        Due.says("Promise 33", "STATE: no PEOPLE");
        Edges.refused(Edges::bare, "sets(0)", y -> y.sets(0), STATE);
        Edges.refused(Edges::bare, "sets(180)", y -> y.sets(180), STATE);
    }

    private static void sure() {
        Due.says("Promise 34", "PEOPLE (bits) that are in each such set; those in none by asked()");
        FlossRumours x = Due.front("d00 p030 b030 g030 w030 i030 l030");
        Due.asked(x, "all", x.sure(180), 63, 0);
        Due.asked(x, "none", x.sure(0), 0, 63);
        Due.asked(x, "some", x.sure(150), 0, 0);
        x = Due.front("d00 p000 p005 p007");
        Due.asked(x, "one with none may be in it or not", x.sure(0), 0, 6);
        Due.asked(x, "one is in, one is not", x.sure(5), 2, 4);
        Due.asked(x, "two are in", x.sure(12), 6, 0);
        aside("sure(0)", y -> y.sure(0));
        Due.says("Promise 34", "BAD");
        numbers("sure", (y, v) -> y.sure(v), -1, 181, LOW, HIGH);
        Due.says("Promise 34", "STATE");
        Edges.refused(Edges::bare, "sure(0)", y -> y.sure(0), STATE);
        Due.says("Promise 34", "NOUGHT: there is no set");
        Edges.found(Edges::people, "sure(180)", y -> y.sure(180), NOUGHT);
        Edges.found(Edges::full, "sure(1)", y -> y.sure(1), NOUGHT);
        Edges.found(Edges::full, "sure(18)", y -> y.sure(18), NOUGHT);
        Due.says("Promise 34", "(In this order.)");
        Edges.refused(Edges::bare, "sure(-1)", y -> y.sure(-1), BAD);
        Edges.refused(Edges::bare, "sure(1): no set, nobody", y -> y.sure(1), STATE);
    }

    private static void duel() {
        Due.says("Promise 35", "By turns two (unlike ones) go one PLACE back, stay, or go one on, n (0 .. 2) times each");
        String[] fronts = {"d00 p000 p500", "d00 p100 p500", "d00 p900 p500", "d00 p200 p500", "d00 p800 p500", "d00 p300 p500"};
        int[][] want = {{6, 6, 6}, {0, 6, 6}, {0, 6, 6}, {0, 0, 6}, {0, 0, 6}, {0, 0, 0}};
        for (int k = 0; k < fronts.length; k++) {
            FlossRumours x = Due.front(fronts[k]);
            x.spoon(9);
            for (int n = 0; n <= 2; n++) {
                Due.asked(x, fronts[k] + " duel(0, 1, " + n + ")", x.duel(0, 1, n), 1, want[k][n]);
                Due.asked(x, fronts[k] + " duel(1, 0, " + n + ")", x.duel(1, 0, n), 1, -want[k][n]);
            }
        }
        Due.says("Promise 35", "the first one begins");
        // 15 at 9, then 6 more each time at 8 and 7: it is better to see first where the other one goes
        FlossRumours x = Due.front("d06 w900 w800");
        x.spoon(9);
        x.wind(0);
        Due.asked(x, "duel(0, 1, 1)", x.duel(0, 1, 1), 1, 0);
        Due.asked(x, "duel(1, 0, 1)", x.duel(1, 0, 1), 1, -2);
        Due.says("Promise 35", "then there are 3 TURNS");
        x = Due.front("d00 p200 p300 p400");
        x.spoon(9);
        x.wind(2);
        Due.asked(x, "the third turn, not the fourth", x.duel(1, 2, 0), 1, 2);
        Due.asked(x, "not a fourth turn", x.duel(2, 0, 0), 1, -2);
        Due.says("Promise 35", "how much more the first one HAS then than the second one");
        x = Due.front("d00 b030 b500 p530");
        Due.asked(x, "most", x.duel(0, 1, 2), 1, 30);
        Due.asked(x, "least", x.duel(1, 0, 2), 1, -30);
        Due.asked(x, "as much", x.duel(0, 2, 2), 1, 0);
        x.rain(1);
        Due.asked(x, "in rain", x.duel(0, 2, 0), 1, 27);
        aside("duel(0, 5, 2)", y -> y.duel(0, 5, 2));
    }

    private static void duelRefused() {
        Due.says("Promise 35", "BAD");
        nobody("duel", (y, i) -> y.duel(i, 0, 1));
        nobody("duel of 0 and", (y, i) -> y.duel(0, i, 1));
        numbers("duel", (y, n) -> y.duel(0, 1, n), -1, 3, LOW, HIGH);
        for (int i = 0; i < 6; i++) {
            int one = i;
            Edges.refused(Edges::people, "duel(" + i + ", " + i + ", 1)", y -> y.duel(one, one, 1), BAD);
        }
    }
}
