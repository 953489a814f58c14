/** Promises 14 to 21. */
public final class DeedsTest {
    private static final int BAD = FlossRumours.BAD, FULL = FlossRumours.FULL, STATE = FlossRumours.STATE;
    private static final int NOTHING = 1;
    private static final int LOW = Integer.MIN_VALUE, HIGH = Integer.MAX_VALUE;

    public static void main(String[] args) {
        growth();
        order();
        bishops();
        waspsAndGirls();
        rainOnAll();
        drifting();
        turnRefused();
        spoon();
        wind();
        rain();
        stand();
        full();
        undo();
        keepAndOn();
        Due.end();
    }

    private static void state(FlossRumours x, int cloud, int place, int all) {
        Due.is("the cloud", x.count(1), cloud);
        Due.is("its place", x.count(2), place);
        Due.is("what all have", x.count(9), all);
    }

    private static void growth() {
        FlossRumours x = Due.front("d08 p000");
        Due.is("no cloud grows", x.turn(), 0);
        state(x, 0, 0, 0);
        x.spoon(5);
        Due.is("turn", x.turn(), 1);
        state(x, 11, 0, 2);
        Due.is("the next turn", x.count(5), 2);
        Due.is("deeds", x.count(6), 3);
        x = Due.front("d08 p000");
        Due.spoons(x, 55);
        x.turn();
        state(x, 58, 0, 2);
        x = Due.front("d00 g025");
        Due.spoons(x, 10);
        Due.is("what is more is lost", x.turn(), 1);
        state(x, 1, 0, 30);
        Due.is("it gathers though it has 30", x.turn(), 1);
        state(x, 0, 0, 30);
        Due.is("nothing left", x.turn(), 0);
    }

    private static void order() {
        FlossRumours x = Due.front("d00 g000 p000 p100 b000");
        Due.spoons(x, 12);
        Due.is("one behind the other", x.turn(), 11);
        Due.one(x, 0, 2, 9);
        Due.one(x, 1, 2, 2);
        Due.one(x, 2, 2, 0);
        Due.one(x, 3, 2, 1);
        state(x, 0, 0, 12);
    }

    private static void bishops() {
        FlossRumours x = Due.front("d50 i600 p600");
        x.spoon(2);
        x.wind(2);
        Due.is("behind a bishop there is more", x.turn(), 3);
        state(x, 1, 6, 4);
        x = Due.front("d50 i600");
        x.spoon(2);
        x.wind(2);
        Due.is("all gathered, then breath", x.turn(), 1);
        state(x, 3, 6, 2);
        x = Due.front("d09 i000");
        Due.spoons(x, 60);
        x.turn();
        state(x, 60, 0, 2);
        x = Due.front("d09 g000 i000 i000");
        Due.is("nothing, no breath", x.turn(), 0);
        state(x, 0, 0, 0);
        x = Due.front("d00 g000 i000");
        x.spoon(9);
        Due.is("nothing left, no breath", x.turn(), 1);
        state(x, 0, 0, 9);
        x = Due.front("d00 i030");
        x.spoon(9);
        Due.is("one who has 30 breathes, too", x.turn(), 1);
        state(x, 10, 0, 30);
    }

    private static void waspsAndGirls() {
        FlossRumours x = Due.front("d00 w000");
        x.spoon(1);
        Due.is("half of 1 is nothing", x.turn(), 0);
        state(x, 1, 0, 0);
        x.spoon(6);
        Due.is("half of 7", x.turn(), 1);
        state(x, 4, 0, 3);
        x = Due.front("d00 l000");
        Due.spoons(x, 19);
        x.turn();
        state(x, 10, 0, 9);
        x = Due.front("d01 l000");
        Due.spoons(x, 19);
        x.turn();
        state(x, 0, 0, 20);
        x = Due.front("d00 p000 l000");
        Due.spoons(x, 21);
        x.turn();
        state(x, 10, 0, 11);
    }

    private static void rainOnAll() {
        FlossRumours x = Due.front("d09 p005 b005 g105 w205 i305 l405");
        x.spoon(9);
        x.rain(1);
        Due.is("turn in rain", x.turn(), 3);
        int[] has = {3, 7, 2, 2, 5, 2};
        for (int i = 0; i < 6; i++) Due.one(x, i, 2, has[i]);
        state(x, 0, 0, 21);
        x = Due.front("d09 p900");
        x.spoon(1);
        x.wind(2);
        x.rain(1);
        x.turn();
        state(x, 0, 0, 0);
        x.spoon(3);
        x.turn();
        state(x, 1, 1, 0);
    }

    private static void drifting() {
        FlossRumours x = Due.front("d00 p500");
        x.spoon(9);
        x.wind(0);
        x.turn();
        state(x, 9, 9, 0);
        x.wind(2);
        x.turn();
        state(x, 9, 0, 0);
        x.turn();
        x.spoon(4);
        state(x, 13, 1, 0);
        x.wind(1);
        x.turn();
        state(x, 13, 1, 0);
        x = Due.front("d20 g300");
        x.spoon(9);
        x.wind(2);
        x.turn();
        state(x, 0, 2, 9);
    }

    private static void turnRefused() {
        FlossRumours x = new FlossRumours();
        Due.is("turn", x.turn(), STATE);
        x = Due.front("d00 p000");
        for (int k = 0; k < 40; k++) Due.is("turn", x.turn(), 0);
        long before = x.digest();
        Due.is("turn", x.turn(), FULL);
        Due.is("nothing changes", x.digest(), before);
        Due.is("the next turn", x.count(5), 40);
    }

    private static void spoon() {
        FlossRumours x = new FlossRumours();
        Due.is("spoon, no people", x.spoon(1), STATE);
        Due.is("spoon(0), no people", x.spoon(0), BAD);
        x = Due.front("d40 p000");
        for (int n : new int[] {0, 10, -1, LOW, HIGH}) Due.is("spoon(" + n + ")", x.spoon(n), BAD);
        Due.is("spoon(1)", x.spoon(1), 1);
        for (int k = 1; k <= 6; k++) Due.is("spoon(9)", x.spoon(9), 1 + 9 * k);
        Due.is("60 at most", x.spoon(9), 60);
        Due.is("it is 60", x.spoon(1), STATE);
        Due.is("its place", x.count(2), 4);
        Due.is("deeds", x.count(6), 8);
        Due.is("turns", x.count(5), 0);
    }

    private static void wind() {
        FlossRumours x = new FlossRumours();
        Due.is("wind, no people", x.wind(0), STATE);
        Due.is("wind(3), no people", x.wind(3), BAD);
        x = Due.front("d40 p000");
        Due.is("it is so", x.wind(1), STATE);
        Due.is("wind(2)", x.wind(2), 1);
        Due.is("wind(0)", x.wind(0), 2);
        Due.is("wind(1)", x.wind(1), 0);
        for (int w : new int[] {-1, 3, LOW, HIGH}) Due.is("wind(" + w + ")", x.wind(w), BAD);
        Due.is("deeds", x.count(6), 3);
    }

    private static void rain() {
        FlossRumours x = new FlossRumours();
        Due.is("rain, no people", x.rain(1), STATE);
        Due.is("rain(2), no people", x.rain(2), BAD);
        x = Due.front("d40 p000");
        Due.is("it is so", x.rain(0), STATE);
        Due.is("rain(1)", x.rain(1), 1);
        Due.is("count(4)", x.count(4), 1);
        Due.is("it is so", x.rain(1), STATE);
        Due.is("rain(0)", x.rain(0), 0);
        for (int is : new int[] {-1, 2, LOW, HIGH}) Due.is("rain(" + is + ")", x.rain(is), BAD);
        Due.is("deeds", x.count(6), 2);
    }

    private static void stand() {
        FlossRumours x = new FlossRumours();
        Due.is("stand, no people", x.stand(0, 0), BAD);
        x = Due.front("d40 p000 b700");
        Due.is("it stands there", x.stand(1, 7), STATE);
        Due.is("stand", x.stand(1, 0), 7);
        Due.is("stand", x.stand(1, 9), 0);
        Due.one(x, 1, 1, 9);
        Due.one(x, 0, 1, 0);
        Due.is("stand(2, ..)", x.stand(2, 1), BAD);
        Due.is("stand(-1, ..)", x.stand(-1, 1), BAD);
        Due.is("stand(.., 10)", x.stand(0, 10), BAD);
        Due.is("stand(.., -1)", x.stand(0, -1), BAD);
        Due.is("deeds", x.count(6), 2);
    }

    private static void full() {
        FlossRumours x = Due.front("d40 p000");
        for (int k = 0; k < 20; k++) {
            x.wind(2);
            x.wind(1);
        }
        Due.is("deeds", x.count(6), 40);
        Due.is("BAD ahead of FULL", x.spoon(0), BAD);
        Due.is("BAD ahead of FULL", x.wind(3), BAD);
        Due.is("BAD ahead of FULL", x.rain(2), BAD);
        Due.is("BAD ahead of FULL", x.stand(0, 10), BAD);
        Due.is("STATE ahead of FULL", x.wind(1), STATE);
        Due.is("STATE ahead of FULL", x.rain(0), STATE);
        Due.is("STATE ahead of FULL", x.stand(0, 0), STATE);
        Due.is("FULL", x.spoon(1), FULL);
        Due.is("FULL", x.wind(0), FULL);
        Due.is("FULL", x.rain(1), FULL);
        Due.is("FULL", x.stand(0, 1), FULL);
        Due.is("FULL", x.turn(), FULL);
        x.undo(0);
        Due.spoons(x, 60);
        for (int k = x.count(6); k < 40; k++) x.wind(x.count(3) == 1 ? 2 : 1);
        Due.is("STATE ahead of FULL", x.spoon(1), STATE);
        Due.is("keeping is no deed", x.keep(0), 40);
    }

    private static void undo() {
        FlossRumours x = new FlossRumours();
        long without = x.digest();
        Due.is("undo(0), no people", x.undo(0), 0);
        Due.is("undo(1), no people", x.undo(1), BAD);
        Due.is("undo(-1), no people", x.undo(-1), BAD);
        Due.is("nothing is changed", x.digest(), without);
        x = Due.front("d34 p305 b312 g400 w400 i500 l524");
        long[] digests = new long[8];
        for (int k = 0; k < 8; k++) {
            digests[k] = x.digest();
            switch (k) {
                case 0: case 2: x.spoon(9); break;
                case 1: case 4: case 6: x.turn(); break;
                case 3: x.wind(2); break;
                case 5: x.rain(1); break;
                default: x.stand(3, 9); break;
            }
        }
        Due.is("undo(-1)", x.undo(-1), BAD);
        long behindAll = x.digest();
        Due.is("undo(8): just behind the last deed, none is undone", x.undo(8), 0);
        Due.is("undo(9)", x.undo(9), BAD);
        Due.is("undo(HIGH)", x.undo(HIGH), BAD);
        Due.is("undo(LOW)", x.undo(LOW), BAD);
        Due.is("nothing is changed", x.digest(), behindAll);
        Due.is("undo(7)", x.undo(7), 1);
        Due.is("as it was", x.digest(), digests[7]);
        Due.is("undo(5)", x.undo(5), 2);
        Due.is("as it was", x.digest(), digests[5]);
        x.spoon(1);
        Due.is("other deeds", x.undo(5), 1);
        Due.is("as it was", x.digest(), digests[5]);
        Due.is("undo(0)", x.undo(0), 5);
        Due.is("as it was", x.digest(), digests[0]);
        Due.is("undo(0) again", x.undo(0), 0);
        Due.is("undo(1), no deeds", x.undo(1), BAD);
        Due.is("as it was", x.digest(), digests[0]);
        for (int k = 0; k < 40; k++) x.turn();
        Due.is("undo(41)", x.undo(41), BAD);
        Due.is("undo(40)", x.undo(40), 0);
        Due.is("still full", x.turn(), FULL);
        Due.is("undo(39)", x.undo(39), 1);
    }

    private static void keepAndOn() {
        FlossRumours x = new FlossRumours();
        Due.is("keep, no people", x.keep(0), STATE);
        Due.is("keep(3), no people", x.keep(3), BAD);
        Due.finding(x, "on", x.on(0), NOTHING);
        x = Due.front("d34 p305 b312");
        x.spoon(9);
        x.turn();
        for (int k : new int[] {-1, 3, LOW, HIGH}) {
            Due.is("keep(" + k + ")", x.keep(k), BAD);
            Due.is("on(" + k + ")", x.on(k), BAD);
        }
        Due.is("keep(2)", x.keep(2), 2);
        Due.is("kept", x.count(14), 1);
        long kept = x.digest();
        x.rain(1);
        x.turn();
        x.stand(0, 8);
        Due.finding(x, "on(1)", x.on(1), NOTHING);
        Due.is("on(2)", x.on(2), 2);
        Due.is("as it was kept", x.digest(), kept);
        x.undo(1);
        x.wind(0);
        x.wind(1);
        x.turn();
        Due.is("kept still", x.on(2), 2);
        Due.is("as it was kept", x.digest(), kept);
        Due.is("its deeds, too", x.undo(0), 2);
        Due.is("keep over it", x.keep(2), 0);
        x.turn();
        Due.is("on(2)", x.on(2), 0);
        Due.is("the next turn", x.count(5), 0);
    }
}
