import java.util.function.Supplier;

/** Each sentence of promises 14 to 21 that names a boundary case, by itself. */
public final class EdgesOfDeedsTest {
    private static final int BAD = Edges.BAD, FULL = Edges.FULL, STATE = Edges.STATE, NOTHING = Edges.NOTHING;
    private static final int LOW = Edges.LOW, HIGH = Edges.HIGH;

    public static void main(String[] args) {
        turn();
        spoon();
        wind();
        rain();
        stand();
        undo();
        undoRefused();
        keep();
        on();
        Due.end();
    }

    /** 39 DEEDS: one more can be done. */
    private static FlossRumours nearlyFull() {
        return Edges.with(Edges.full(), x -> x.undo(39));
    }

    private static void turn() {
        Due.says("Promise 14", "A TURN: who GATHERS something (bits)");
        FlossRumours x = Due.front("d00 p000 p000 p000 p000 p000 p000");
        Due.is("nobody", x.turn(), 0);
        Due.spoons(x, 12);
        Due.is("all six", x.turn(), 63);
        Due.is("nobody again", x.turn(), 0);
        x.spoon(1);
        Due.is("the first", x.turn(), 1);
        x = Due.front("d00 p500 p500 p500 p500 p500 p030");
        x.spoon(1);
        Due.is("the last, who has 30", x.turn(), 32);
        Due.says("Promise 14", "STATE: no PEOPLE");
        Edges.refused(Edges::bare, "turn()", y -> y.turn(), STATE);
        Due.says("Promise 14", "FULL: 40 DEEDS");
        Due.is("the fortieth deed", nearlyFull().turn(), 0);
        Edges.refused(Edges::full, "turn()", y -> y.turn(), FULL);
        Edges.refused(Edges::fullWithCloud, "turn()", y -> y.turn(), FULL);
    }

    private static void spoon() {
        Due.says("Promise 15", "A SPOON of n (1 .. 9): the CLOUD then");
        FlossRumours x = Due.front("d00 p500");
        Due.is("spoon(1)", x.spoon(1), 1);
        Due.is("spoon(9)", x.spoon(9), 10);
        for (int k = 0; k < 5; k++) x.spoon(9);
        Due.is("spoon(4)", x.spoon(4), 59);
        x.keep(0);
        Due.is("spoon(1) to 59", x.spoon(1), 60);
        x.on(0);
        Due.is("spoon(9) to 59", x.spoon(9), 60);
        Due.says("Promise 15", "BAD");
        for (int n : new int[] {0, -1, 10, LOW, HIGH}) Edges.refused(Edges::people, "spoon(" + n + ")", y -> y.spoon(n), BAD);
        Due.says("Promise 15", "STATE: no PEOPLE");
        Edges.refused(Edges::bare, "spoon(1)", y -> y.spoon(1), STATE);
        Due.says("Promise 15", "STATE: .. or it is 60");
        Supplier<FlossRumours> sixty = () -> {
            FlossRumours y = Due.front("d34 p305 b312");
            Due.spoons(y, 60);
            return y;
        };
        Edges.refused(sixty, "spoon(1)", y -> y.spoon(1), STATE);
        Edges.refused(sixty, "spoon(9)", y -> y.spoon(9), STATE);
        Due.says("Promise 15", "FULL");
        Due.is("the fortieth deed", nearlyFull().spoon(9), 9);
        Edges.refused(Edges::full, "spoon(1)", y -> y.spoon(1), FULL);
        Due.says("Promise 15", "(FULL last.)");
        Edges.refused(Edges::fullWithCloud, "spoon(1)", y -> y.spoon(1), STATE);
        Edges.refused(Edges::full, "spoon(0)", y -> y.spoon(0), BAD);
    }

    private static void wind() {
        Due.says("Promise 16", "The WIND (0 .. 2): what it was");
        FlossRumours x = Due.front("d00 p500");
        int[] winds = {0, 1, 2, 0, 2, 1};
        int was = 1;
        for (int w : winds) {
            Due.is("wind(" + w + ")", x.wind(w), was);
            Due.is("the wind", x.count(3), w);
            was = w;
        }
        Due.says("Promise 16", "BAD");
        for (int w : new int[] {-1, 3, LOW, HIGH}) Edges.refused(Edges::people, "wind(" + w + ")", y -> y.wind(w), BAD);
        Due.says("Promise 16", "STATE: no PEOPLE");
        for (int w = 0; w <= 2; w++) {
            int is = w;
            Edges.refused(Edges::bare, "wind(" + w + ")", y -> y.wind(is), STATE);
        }
        Due.says("Promise 16", "STATE: .. or it is so");
        Edges.refused(Edges::people, "wind(2)", y -> y.wind(2), STATE);
        Edges.refused(() -> Edges.with(Edges.people(), y -> y.wind(0)), "wind(0)", y -> y.wind(0), STATE);
        Edges.refused(() -> Edges.with(Edges.people(), y -> y.wind(1)), "wind(1)", y -> y.wind(1), STATE);
        Due.says("Promise 16", "FULL");
        Due.is("the fortieth deed", nearlyFull().wind(0), 2);
        Edges.refused(Edges::full, "wind(0)", y -> y.wind(0), FULL);
        Edges.refused(Edges::full, "wind(2)", y -> y.wind(2), FULL);
        Due.says("Promise 16", "(FULL last.)");
        Edges.refused(Edges::full, "wind(1)", y -> y.wind(1), STATE);
        Edges.refused(Edges::full, "wind(-1)", y -> y.wind(-1), BAD);
    }

    private static void rain() {
        Due.says("Promise 17", "RAIN (1) or none (0): what it is then");
        FlossRumours x = Due.front("d00 p500");
        Due.is("rain(1)", x.rain(1), 1);
        Due.is("it rains", x.count(4), 1);
        Due.is("rain(0)", x.rain(0), 0);
        Due.is("no more", x.count(4), 0);
        Due.says("Promise 17", "BAD");
        for (int is : new int[] {-1, 2, LOW, HIGH}) Edges.refused(Edges::people, "rain(" + is + ")", y -> y.rain(is), BAD);
        Due.says("Promise 17", "STATE: no PEOPLE");
        Edges.refused(Edges::bare, "rain(1)", y -> y.rain(1), STATE);
        Edges.refused(Edges::bare, "rain(0)", y -> y.rain(0), STATE);
        Due.says("Promise 17", "STATE: .. or it is so");
        Edges.refused(Edges::people, "rain(0)", y -> y.rain(0), STATE);
        Edges.refused(() -> Edges.with(Edges.people(), y -> y.rain(1)), "rain(1)", y -> y.rain(1), STATE);
        Due.says("Promise 17", "FULL");
        Due.is("the fortieth deed", nearlyFull().rain(1), 1);
        Edges.refused(Edges::full, "rain(1)", y -> y.rain(1), FULL);
        Due.says("Promise 17", "(FULL last.)");
        Edges.refused(Edges::full, "rain(0)", y -> y.rain(0), STATE);
        Edges.refused(Edges::full, "rain(2)", y -> y.rain(2), BAD);
    }

    private static void stand() {
        Due.says("Promise 18", "One stands at a PLACE (0 .. 9): where it stood");
        FlossRumours x = Due.front("d00 p500 b500");
        int stood = 5;
        for (int place : new int[] {0, 9, 8, 1, 0, 5}) {
            Due.is("stand(1, " + place + ")", x.stand(1, place), stood);
            Due.one(x, 1, 1, place);
            stood = place;
        }
        Due.one(x, 0, 1, 5);
        Due.says("Promise 18", "BAD");
        for (int i : new int[] {-1, 6, LOW, HIGH}) Edges.refused(Edges::people, "stand(" + i + ", 0)", y -> y.stand(i, 0), BAD);
        for (int place : new int[] {-1, 10, LOW, HIGH}) {
            Edges.refused(Edges::people, "stand(0, " + place + ")", y -> y.stand(0, place), BAD);
        }
        Edges.refused(Edges::bare, "stand(0, 0), no people", y -> y.stand(0, 0), BAD);
        Edges.refused(Edges::full, "stand(2, 0) of two", y -> y.stand(2, 0), BAD);
        Due.says("Promise 18", "STATE: it stands there");
        Edges.refused(Edges::people, "stand(0, 3)", y -> y.stand(0, 3), STATE);
        Edges.refused(Edges::people, "stand(5, 5)", y -> y.stand(5, 5), STATE);
        Due.is("where another one stands", Edges.people().stand(0, 5), 3);
        Due.says("Promise 18", "FULL");
        Due.is("the fortieth deed", nearlyFull().stand(1, 4), 3);
        Edges.refused(Edges::full, "stand(0, 4)", y -> y.stand(0, 4), FULL);
        Due.says("Promise 18", "(FULL last.)");
        Edges.refused(Edges::full, "stand(0, 3)", y -> y.stand(0, 3), STATE);
        Edges.refused(Edges::full, "stand(0, 10)", y -> y.stand(0, 10), BAD);
    }

    private static void undo() {
        Due.says("Promise 19", "DEEDS from number n on are undone: how many");
        FlossRumours x = Due.front("d08 l029 g000 i000 p030");
        // what was lost, cut off at 30 or at 60, wound or left to the rain comes back
        Due.spoons(x, 54);
        x.keep(0);
        long[] digests = new long[9];
        int[] deeds = new int[9];
        for (int k = 0; k < 9; k++) {
            digests[k] = x.digest();
            deeds[k] = x.count(6);
            switch (k) {
                case 0: x.spoon(9); break;
                case 2: x.rain(1); break;
                case 4: x.wind(0); break;
                case 5: x.spoon(1); break;
                case 6: x.stand(0, 9); break;
                case 7: x.rain(0); break;
                default: x.turn(); break;
            }
        }
        int all = x.count(6);
        Due.is("deeds", all, deeds[0] + 9);
        Due.is("from behind the last one on", x.undo(all), 0);
        for (int k = 8; k >= 0; k--) {
            Due.is("undo(" + deeds[k] + ")", x.undo(deeds[k]), 1);
            Due.is("as it was", x.digest(), digests[k]);
        }
        Due.is("all of them", x.undo(0), deeds[0]);
        Due.is("none is left", x.count(6), 0);
        Due.has(x, 29, 0, 0, 30);
        Due.is("of none", x.undo(0), 0);
        Due.is("forty", Edges.full().undo(0), 40);
        Due.is("the last of forty", Edges.full().undo(39), 1);
        Due.is("none of forty", Edges.full().undo(40), 0);
        x = Edges.full();
        x.undo(39);
        Due.is("one can be done again", x.turn(), 0);
        Due.is("but one", x.turn(), FULL);
        Due.is("a new object", new FlossRumours().undo(0), 0);
    }

    private static void undoRefused() {
        Due.says("Promise 19", "BAD");
        for (int n : new int[] {-1, 4, LOW, HIGH}) Edges.refused(Edges::people, "undo(" + n + ")", y -> y.undo(n), BAD);
        for (int n : new int[] {-1, 41}) Edges.refused(Edges::full, "undo(" + n + ")", y -> y.undo(n), BAD);
        for (int n : new int[] {-1, 1}) Edges.refused(Edges::bare, "undo(" + n + ")", y -> y.undo(n), BAD);
    }

    private static void keep() {
        Due.says("Promise 20", "The FRONT (as it is, DEEDS) is kept in a place (0 .. 2): how many DEEDS");
        FlossRumours x = Due.front("d34 p305 b312");
        Due.is("keep(0), no deeds", x.keep(0), 0);
        x.spoon(9);
        x.turn();
        Due.is("keep(2)", x.keep(2), 2);
        Due.is("kept fronts", x.count(14), 2);
        for (int k = 2; k < 40; k++) x.turn();
        Due.is("keep(1), forty deeds", x.keep(1), 40);
        Due.is("kept fronts", x.count(14), 3);
        Due.is("a kept place anew", x.keep(0), 40);
        Due.is("kept fronts", x.count(14), 3);
        Due.is("it is no deed", x.count(6), 40);
        Due.says("Promise 20", "BAD");
        for (int k : new int[] {-1, 3, LOW, HIGH}) {
            Edges.refused(Edges::people, "keep(" + k + ")", y -> y.keep(k), BAD);
            Edges.refused(Edges::bare, "keep(" + k + "), no people", y -> y.keep(k), BAD);
        }
        Due.says("Promise 20", "STATE: no PEOPLE");
        for (int k = 0; k <= 2; k++) {
            int place = k;
            Edges.refused(Edges::bare, "keep(" + k + ")", y -> y.keep(place), STATE);
        }
    }

    private static void on() {
        Due.says("Promise 21", "The FRONT is as it was kept: how many DEEDS");
        FlossRumours x = Due.front("d34 p305 b312");
        x.keep(0);
        x.spoon(9);
        x.turn();
        x.stand(0, 0);
        x.keep(2);
        x.rain(1);
        for (int k = 4; k < 40; k++) x.turn();
        x.keep(1);
        x.on(2);
        long two = x.digest();
        x.undo(1);
        Due.is("on(1)", x.on(1), 40);
        Due.is("forty again", x.turn(), FULL);
        Due.is("rain again", x.count(4), 1);
        Due.is("on(0)", x.on(0), 0);
        Due.is("no deeds", x.count(6), 0);
        Due.cloud(x, 0, 3);
        Due.is("on(2)", x.on(2), 3);
        x.undo(2);
        Due.one(x, 0, 1, 3);
        x.wind(0);
        Due.is("on(2): what came since is gone", x.on(2), 3);
        Due.one(x, 0, 1, 0);
        Due.is("the wind", x.count(3), 1);
        Due.is("as it was", x.digest(), two);
        Due.is("its deeds can be undone", x.undo(0), 3);
        Due.is("on(2) again", x.on(2), 3);
        Due.says("Promise 21", "BAD");
        for (int k : new int[] {-1, 3, LOW, HIGH}) {
            Edges.refused(Edges::people, "on(" + k + ")", y -> y.on(k), BAD);
            Edges.refused(Edges::bare, "on(" + k + "), no people", y -> y.on(k), BAD);
        }
        Due.says("Promise 21", "NOTHING");
        Edges.found(Edges::people, "on(0)", y -> y.on(0), NOTHING);
        Edges.found(Edges::people, "on(2)", y -> y.on(2), NOTHING);
        Edges.found(Edges::full, "on(0)", y -> y.on(0), NOTHING);
        for (int k = 0; k <= 2; k++) {
            int place = k;
            Edges.found(Edges::bare, "on(" + k + "), no people", y -> y.on(place), NOTHING);
        }
        Supplier<FlossRumours> anew = () -> Edges.with(Edges.people(), y -> y.front(0));
        Edges.found(anew, "on(1), a front anew", y -> y.on(1), NOTHING);
    }
}
