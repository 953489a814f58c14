import java.util.function.Supplier;

/** Each sentence of promises 1 to 13 that names a boundary case, by itself. */
public final class EdgesOfRowsTextsFrontsTest {
    private static final int BAD = Edges.BAD, STATE = Edges.STATE, NONE = Edges.NONE;
    private static final int NOTHING = Edges.NOTHING, BEYOND = Edges.BEYOND, UNLIKE = Edges.UNLIKE;
    private static final int NOUGHT = Edges.NOUGHT, SIZE = Edges.SIZE;
    private static final int LOW = Edges.LOW, HIGH = Edges.HIGH;
    private static final int[] NO_ROWS = {-1, 6, LOW, HIGH}, NO_TEXTS = {-1, 4, LOW, HIGH};

    public static void main(String[] args) {
        newObject();
        row();
        lay();
        at();
        tear();
        copy();
        copyRefused();
        mean();
        text();
        put();
        fault();
        front();
        frontRefused();
        one();
        mark();
        markRefused();
        Due.end();
    }

    /** ROW 0 of three ints, ROW 1 of none, ROW 2 of forty, the others as ever. */
    private static FlossRumours rows() {
        FlossRumours x = Edges.people();
        Due.row(x, 0, 11, 12, 13);
        x.row(1, 0);
        x.row(2, 40);
        x.lay(2, 39, 14);
        x.at(5, 0);
        return x;
    }

    private static void newObject() {
        Due.says("Promise 1", "No ROWS, TEXTS, PEOPLE");
        FlossRumours x = new FlossRumours();
        for (int r = 0; r < 6; r++) Due.finding(x, "tear(" + r + ")", x.tear(r), NOTHING);
        for (int t = 0; t < 4; t++) Due.finding(x, "put(" + t + ", 0, 0)", x.put(t, 0, 0), NOTHING);
        for (int i = 0; i < 6; i++) Due.is("one(" + i + ", 0)", x.one(i, 0), BAD);
        for (int what : new int[] {0, 12, 13}) Due.is("count(" + what + ")", x.count(what), 0);
    }

    private static void row() {
        Due.says("Promise 2", "A ROW is there with n ints 0: n");
        FlossRumours x = new FlossRumours();
        Due.is("row(0, 0)", x.row(0, 0), 0);
        Due.finding(x, "a row of none has no place", x.at(0, 0), BEYOND);
        Due.is("row(5, 40)", x.row(5, 40), 40);
        for (int i = 0; i < 40; i++) {
            Due.asked(x, "at(5, " + i + ")", x.at(5, i), 1, 0);
            x.lay(5, i, 7);
        }
        Due.is("anew, shorter", x.row(5, 1), 1);
        Due.finding(x, "no second place", x.at(5, 1), BEYOND);
        Due.is("anew, longer", x.row(5, 40), 40);
        for (int i = 0; i < 40; i++) Due.asked(x, "at(5, " + i + ")", x.at(5, i), 1, 0);
        Due.is("still two rows", x.count(12), 2);
        Due.says("Promise 2", "BAD");
        for (int r : NO_ROWS) Edges.refused(Edges::people, "row(" + r + ", 1)", y -> y.row(r, 1), BAD);
        Due.says("Promise 2", "BAD: also n above 40");
        for (int n : new int[] {41, HIGH}) Edges.refused(Edges::people, "row(5, " + n + ")", y -> y.row(5, n), BAD);
        Due.says("Promise 2", "SIZE: below 0");
        for (int n : new int[] {-1, LOW}) Edges.found(Edges::people, "row(5, " + n + ")", y -> y.row(5, n), SIZE);
    }

    private static void lay() {
        Due.says("Promise 3", "Place i of a ROW is v: what it was, told by asked(): 1");
        FlossRumours x = rows();
        Due.asked(x, "lay(0, 0, LOW)", x.lay(0, 0, LOW), 1, 11);
        Due.asked(x, "lay(0, 2, HIGH)", x.lay(0, 2, HIGH), 1, 13);
        Due.asked(x, "lay(2, 39, 0)", x.lay(2, 39, 0), 1, 14);
        Due.asked(x, "lay(0, 0, 1)", x.lay(0, 0, 1), 1, LOW);
        Due.asked(x, "lay(0, 2, 1)", x.lay(0, 2, 1), 1, HIGH);
        Due.says("Promise 3", "BAD");
        for (int r : NO_ROWS) Edges.refused(EdgesOfRowsTextsFrontsTest::rows, "lay(" + r + ", 0, 1)", y -> y.lay(r, 0, 1), BAD);
        Due.says("Promise 3", "NOTHING");
        for (int i : new int[] {0, -1, 40}) {
            Edges.found(EdgesOfRowsTextsFrontsTest::rows, "lay(3, " + i + ", 1)", y -> y.lay(3, i, 1), NOTHING);
        }
        Due.says("Promise 3", "BEYOND");
        for (int[] ri : new int[][] {{0, -1}, {0, 3}, {1, 0}, {2, 40}, {0, LOW}, {0, HIGH}}) {
            Edges.found(EdgesOfRowsTextsFrontsTest::rows, "lay(" + ri[0] + ", " + ri[1] + ", 1)",
                y -> y.lay(ri[0], ri[1], 1), BEYOND);
        }
    }

    private static void at() {
        Due.says("Promise 4", "Place i of a ROW, told by asked(): 1");
        FlossRumours x = rows();
        Due.asked(x, "at(0, 0)", x.at(0, 0), 1, 11);
        Due.asked(x, "at(0, 2)", x.at(0, 2), 1, 13);
        Due.asked(x, "at(2, 39)", x.at(2, 39), 1, 14);
        Due.asked(x, "at(2, 0)", x.at(2, 0), 1, 0);
        Due.says("Promise 4", "BAD");
        for (int r : NO_ROWS) Edges.refused(EdgesOfRowsTextsFrontsTest::rows, "at(" + r + ", 0)", y -> y.at(r, 0), BAD);
        Due.says("Promise 4", "NOTHING");
        for (int i : new int[] {0, -1, 40}) {
            Edges.found(EdgesOfRowsTextsFrontsTest::rows, "at(3, " + i + ")", y -> y.at(3, i), NOTHING);
        }
        Due.says("Promise 4", "BEYOND");
        for (int[] ri : new int[][] {{0, -1}, {0, 3}, {1, 0}, {2, 40}, {0, LOW}, {0, HIGH}}) {
            Edges.found(EdgesOfRowsTextsFrontsTest::rows, "at(" + ri[0] + ", " + ri[1] + ")", y -> y.at(ri[0], ri[1]), BEYOND);
        }
    }

    private static void tear() {
        Due.says("Promise 5", "A ROW is missing: 1");
        FlossRumours x = rows();
        Due.is("rows", x.count(12), 4);
        Due.is("tear(0)", x.tear(0), 1);
        Due.finding(x, "at(0, 0)", x.at(0, 0), NOTHING);
        Due.is("tear(1): a row of none", x.tear(1), 1);
        Due.finding(x, "mean(1)", x.mean(1), NOTHING);
        Due.is("tear(5)", x.tear(5), 1);
        Due.is("rows", x.count(12), 1);
        Due.is("row(0, 3)", x.row(0, 3), 3);
        Due.asked(x, "what was torn is not there again", x.at(0, 2), 1, 0);
        Due.says("Promise 5", "BAD");
        for (int r : NO_ROWS) Edges.refused(EdgesOfRowsTextsFrontsTest::rows, "tear(" + r + ")", y -> y.tear(r), BAD);
        Due.says("Promise 5", "NOTHING");
        Edges.found(EdgesOfRowsTextsFrontsTest::rows, "tear(3)", y -> y.tear(3), NOTHING);
        Edges.found(() -> Edges.with(rows(), y -> y.tear(0)), "tear(0) again", y -> y.tear(0), NOTHING);
    }

    private static void holds(FlossRumours x, int r, int... want) {
        for (int i = 0; i < want.length; i++) Due.asked(x, "at(" + r + ", " + i + ")", x.at(r, i), 1, want[i]);
        Due.finding(x, "no more places", x.at(r, want.length), BEYOND);
    }

    private static void copy() {
        Due.says("Promise 6", "n places of a ROW, from one on, come to those of another one .. from one on");
        FlossRumours x = rows();
        Due.row(x, 4, 1, 2, 3, 4);
        Due.is("all of it", x.copy(0, 0, 4, 0, 3), 1);
        holds(x, 4, 11, 12, 13, 4);
        Due.is("the last one to the last one", x.copy(0, 2, 4, 3, 1), 1);
        holds(x, 4, 11, 12, 13, 13);
        holds(x, 0, 11, 12, 13);
        Due.is("none", x.copy(0, 3, 4, 4, 0), 1);
        Due.is("none of none", x.copy(1, 0, 1, 0, 0), 1);
        Due.is("none from the first on", x.copy(0, 0, 1, 0, 0), 1);
        holds(x, 4, 11, 12, 13, 13);
        x.row(3, 40);
        Due.is("forty", x.copy(2, 0, 3, 0, 40), 1);
        Due.asked(x, "at(3, 39)", x.at(3, 39), 1, 14);
        Due.says("Promise 6", "(perhaps itself) .. as if taken ahead");
        Due.row(x, 4, 1, 2, 3, 4);
        Due.is("on", x.copy(4, 0, 4, 1, 3), 1);
        holds(x, 4, 1, 1, 2, 3);
        Due.row(x, 4, 1, 2, 3, 4);
        Due.is("back", x.copy(4, 1, 4, 0, 3), 1);
        holds(x, 4, 2, 3, 4, 4);
        Due.is("where it is", x.copy(4, 0, 4, 0, 4), 1);
        holds(x, 4, 2, 3, 4, 4);
    }

    private static void copyRefused() {
        Supplier<FlossRumours> rows = EdgesOfRowsTextsFrontsTest::rows;
        Due.says("Promise 6", "BAD");
        for (int r : NO_ROWS) {
            Edges.refused(rows, "copy(" + r + ", 0, 0, 0, 1)", y -> y.copy(r, 0, 0, 0, 1), BAD);
            Edges.refused(rows, "copy(0, 0, " + r + ", 0, 1)", y -> y.copy(0, 0, r, 0, 1), BAD);
            Edges.refused(rows, "copy(" + r + ", 0, 3, 0, -1)", y -> y.copy(r, 0, 3, 0, -1), BAD);
        }
        Due.says("Promise 6", "SIZE: n below 0");
        Edges.found(rows, "copy(0, 0, 2, 0, -1)", y -> y.copy(0, 0, 2, 0, -1), SIZE);
        Edges.found(rows, "copy(0, 0, 2, 0, LOW)", y -> y.copy(0, 0, 2, 0, LOW), SIZE);
        Edges.found(rows, "copy(3, 0, 4, 0, -1)", y -> y.copy(3, 0, 4, 0, -1), SIZE);
        Edges.found(rows, "copy(0, 3, 2, 40, -1)", y -> y.copy(0, 3, 2, 40, -1), SIZE);
        Due.says("Promise 6", "NOTHING: either");
        Edges.found(rows, "copy(3, 0, 0, 0, 1)", y -> y.copy(3, 0, 0, 0, 1), NOTHING);
        Edges.found(rows, "copy(0, 0, 3, 0, 1)", y -> y.copy(0, 0, 3, 0, 1), NOTHING);
        Edges.found(rows, "copy(3, 0, 4, 0, 0)", y -> y.copy(3, 0, 4, 0, 0), NOTHING);
        Edges.found(rows, "copy(3, -1, 0, 9, 9)", y -> y.copy(3, -1, 0, 9, 9), NOTHING);
        Edges.found(rows, "copy(0, -1, 3, 9, 9)", y -> y.copy(0, -1, 3, 9, 9), NOTHING);
        Due.says("Promise 6", "BEYOND: not so many there");
        int[][] sources = {{-1, 1}, {0, 4}, {1, 3}, {2, 2}, {3, 1}, {4, 0}, {-1, 0}, {LOW, 1}, {HIGH, 1}, {HIGH, HIGH}, {1, HIGH}};
        for (int[] in : sources) {
            Edges.found(rows, "copy(0, " + in[0] + ", 2, 0, " + in[1] + ")", y -> y.copy(0, in[0], 2, 0, in[1]), BEYOND);
            Edges.found(rows, "copy(2, 0, 0, " + in[0] + ", " + in[1] + ")", y -> y.copy(2, 0, 0, in[0], in[1]), BEYOND);
        }
        Edges.found(rows, "copy(1, 0, 0, 0, 1)", y -> y.copy(1, 0, 0, 0, 1), BEYOND);
        Edges.found(rows, "copy(2, 0, 2, 1, 40)", y -> y.copy(2, 0, 2, 1, 40), BEYOND);
        Edges.found(rows, "copy(2, 0, 2, 0, 41)", y -> y.copy(2, 0, 2, 0, 41), BEYOND);
    }

    private static void meanIs(int want, int... ints) {
        FlossRumours x = new FlossRumours();
        Due.row(x, 3, ints);
        Due.asked(x, "the mean of " + java.util.Arrays.toString(ints), x.mean(3), 1, want);
    }

    private static void mean() {
        Due.says("Promise 7", "The mean of a ROW's ints, cut, told by asked(): 1");
        meanIs(9, 9);
        meanIs(2, 2, 3);
        meanIs(0, 0, 1);
        meanIs(0, -1, 0);
        meanIs(-2, -2, -3);
        meanIs(HIGH, HIGH, HIGH, HIGH);
        meanIs(LOW, LOW, LOW, LOW);
        meanIs(0, LOW, HIGH);
        int[] forty = new int[40];
        java.util.Arrays.fill(forty, HIGH);
        meanIs(HIGH, forty);
        forty[0] = HIGH - 1;
        meanIs(HIGH - 1, forty);
        Due.says("Promise 7", "BAD");
        for (int r : NO_ROWS) Edges.refused(EdgesOfRowsTextsFrontsTest::rows, "mean(" + r + ")", y -> y.mean(r), BAD);
        Due.says("Promise 7", "NOTHING");
        Edges.found(EdgesOfRowsTextsFrontsTest::rows, "mean(3)", y -> y.mean(3), NOTHING);
        Due.says("Promise 7", "NOUGHT");
        Edges.found(EdgesOfRowsTextsFrontsTest::rows, "mean(1)", y -> y.mean(1), NOUGHT);
    }

    private static void text() {
        Due.says("Promise 8", "A TEXT is there with n blanks: n");
        FlossRumours x = new FlossRumours();
        Due.is("text(0, 0)", x.text(0, 0), 0);
        Due.finding(x, "a text of none has no place", x.put(0, 0, 1), BEYOND);
        Due.is("text(3, 60)", x.text(3, 60), 60);
        for (int i = 0; i < 60; i++) Due.is("put(3, " + i + ", 1)", x.put(3, i, 1), 1032);
        Due.is("anew, shorter", x.text(3, 1), 1);
        Due.finding(x, "no second place", x.put(3, 1, 1), BEYOND);
        Due.is("anew, longer", x.text(3, 60), 60);
        for (int i = 0; i < 60; i++) Due.is("put(3, " + i + ", 1)", x.put(3, i, 1), 1032);
        Due.is("still two texts", x.count(13), 2);
        Due.says("Promise 8", "BAD");
        for (int t : NO_TEXTS) Edges.refused(Edges::people, "text(" + t + ", 1)", y -> y.text(t, 1), BAD);
        Due.says("Promise 8", "BAD: also n above 60");
        for (int n : new int[] {61, HIGH}) Edges.refused(Edges::people, "text(3, " + n + ")", y -> y.text(3, n), BAD);
        Due.says("Promise 8", "SIZE: below 0");
        for (int n : new int[] {-1, LOW}) Edges.found(Edges::people, "text(3, " + n + ")", y -> y.text(3, n), SIZE);
    }

    private static void put() {
        Due.says("Promise 9", "Byte i of a TEXT is v, cut to a byte: what it was, and 1000 more");
        FlossRumours x = new FlossRumours();
        x.text(1, 60);
        int[] v = {0, 127, 128, 255, 256, -1, -128, -129, HIGH, LOW};
        int[] was = {0, 127, -128, -1, 0, -1, -128, 127, -1, 0};
        int before = 32;
        for (int k = 0; k < v.length; k++) {
            Due.is("put(1, 0, " + v[k] + ")", x.put(1, 0, v[k]), 1000 + before);
            before = was[k];
        }
        Due.is("put(1, 59, 1)", x.put(1, 59, 1), 1032);
        Due.is("put(1, 59, 1) again", x.put(1, 59, 1), 1001);
        Due.is("its neighbour", x.put(1, 58, 1), 1032);
        Due.says("Promise 9", "BAD");
        for (int t : NO_TEXTS) Edges.refused(Edges::people, "put(" + t + ", 0, 1)", y -> y.put(t, 0, 1), BAD);
        Due.says("Promise 9", "NOTHING");
        for (int i : new int[] {0, -1, 60}) Edges.found(Edges::people, "put(1, " + i + ", 1)", y -> y.put(1, i, 1), NOTHING);
        Due.says("Promise 9", "BEYOND");
        for (int i : new int[] {-1, 2, LOW, HIGH}) {
            Edges.found(Edges::people, "put(3, " + i + ", 1)", y -> y.put(3, i, 1), BEYOND);
        }
        Supplier<FlossRumours> sixty = () -> Edges.with(Edges.people(), y -> y.text(1, 60));
        Edges.found(sixty, "put(1, 60, 1)", y -> y.put(1, 60, 1), BEYOND);
        Supplier<FlossRumours> none = () -> Edges.with(Edges.people(), y -> y.text(1, 0));
        Edges.found(none, "put(1, 0, 1)", y -> y.put(1, 0, 1), BEYOND);
    }

    private static void fault() {
        Due.says("Promise 10", "A FAULT of a TEXT");
        FlossRumours x = Edges.people();
        long before = x.digest();
        Due.is("blanks alone", x.fault(3), 2);
        Due.is("nothing is changed", x.digest(), before);
        Due.says("Promise 10", "NONE: there is none");
        Due.is("fault(0)", x.fault(0), NONE);
        Due.is("nothing is changed", x.digest(), before);
        Due.is("nothing is told", x.asked(), 777);
        Due.says("Promise 10", "BAD");
        for (int t : NO_TEXTS) Edges.refused(Edges::people, "fault(" + t + ")", y -> y.fault(t), BAD);
        Due.says("Promise 10", "NOTHING");
        Edges.found(Edges::people, "fault(1)", y -> y.fault(1), NOTHING);
    }

    private static void front() {
        Due.says("Promise 11", "A FRONT by a TEXT .. : how many PEOPLE");
        String text = "d34";
        for (int many = 1; many <= 6; many++) {
            text += "p305";
            FlossRumours x = new FlossRumours();
            Due.write(x, 3, text);
            Due.is("front of " + text, x.front(3), many);
            Due.is("people", x.count(0), many);
        }
        Due.says("Promise 11", "(anew: TURN 0, no CLOUD, WIND 1, no RAIN, no DEEDS; kept FRONTS go)");
        FlossRumours x = Edges.people();
        x.rain(1);
        x.stand(0, 9);
        for (int k = x.count(6); k < 40; k++) x.turn();
        for (int k = 0; k < 3; k++) x.keep(k);
        // what was looked at aside must not come into the new one
        x.cloud(1);
        Due.write(x, 1, "d71 l829");
        Due.is("front(1)", x.front(1), 1);
        int[] want = {1, 0, 7, 1, 0, 0, 0, 7, 1, 29, 0, 1};
        for (int what = 0; what < want.length; what++) Due.is("count(" + what + ")", x.count(what), want[what]);
        Due.is("kept fronts", x.count(14), 0);
        for (int k = 0; k < 3; k++) Due.finding(x, "on(" + k + ")", x.on(k), NOTHING);
        Due.is("only one", x.one(1, 0), BAD);
        Due.is("deeds can be done again", x.spoon(9), 9);
        Due.is("front(1): the same once more", x.front(1), 1);
        Due.cloud(x, 0, 7);
        Due.is("deeds", x.count(6), 0);
        x.text(1, 60);
        Due.is("the text is no more than what it came from", x.count(0), 1);
        Due.is("undo(0)", x.undo(0), 0);
        Due.has(x, 29);
    }

    private static void frontRefused() {
        Due.says("Promise 11", "BAD");
        for (int t : NO_TEXTS) Edges.refused(Edges::people, "front(" + t + ")", y -> y.front(t), BAD);
        Due.says("Promise 11", "NOTHING");
        Edges.found(Edges::people, "front(1)", y -> y.front(1), NOTHING);
        Due.says("Promise 11", "STATE: a FAULT");
        for (String text : new String[] {"", "   ", "d34", "d34 p305 b93", "d34 p331", "x", "d57 g000p000p000p000p000p000p000"}) {
            Supplier<FlossRumours> made = () -> {
                FlossRumours x = Edges.people();
                Due.write(x, 1, text);
                return x;
            };
            Edges.refused(made, "front of '" + text + "'", y -> y.front(1), STATE);
            Supplier<FlossRumours> without = () -> {
                FlossRumours x = Edges.bare();
                Due.write(x, 1, text);
                return x;
            };
            Edges.refused(without, "front of '" + text + "', no people", y -> y.front(1), STATE);
        }
        Due.says("Promise 11", "(STATE behind NOTHING.)");
        Edges.found(Edges::bare, "front(0)", y -> y.front(0), NOTHING);
        Edges.found(Edges::full, "front(1)", y -> y.front(1), NOTHING);
    }

    private static void one() {
        Due.says("Promise 12", "0 the KIND, 1 the PLACE, 2 what it HAS");
        FlossRumours x = Due.front("d40 p000 b130 g200 w300 i800 l930");
        int[] places = {0, 1, 2, 3, 8, 9};
        int[] has = {0, 30, 0, 0, 0, 30};
        for (int i = 0; i < 6; i++) {
            Due.one(x, i, 0, i);
            Due.one(x, i, 1, places[i]);
            Due.one(x, i, 2, has[i]);
        }
        Due.says("Promise 12", "3 what it would GATHER of the CLOUD as it is now, were it there");
        for (int i = 0; i < 6; i++) Due.one(x, i, 3, 0);
        x.spoon(1);
        int[] ofOne = {1, 1, 1, 0, 1, 0};
        for (int i = 0; i < 6; i++) Due.one(x, i, 3, ofOne[i]);
        x.undo(0);
        Due.spoons(x, 60);
        int[] ofSixty = {2, 2, 9, 30, 2, 60};
        for (int i = 0; i < 6; i++) Due.one(x, i, 3, ofSixty[i]);
        Due.says("Promise 12", "4 how many PLACES the CLOUD is from it, round by the shorter way");
        int[][] ways = {
            {0, 1, 2, 3, 4, 5, 4, 3, 2, 1}, {1, 0, 1, 2, 3, 4, 5, 4, 3, 2}, {4, 5, 4, 3, 2, 1, 0, 1, 2, 3},
            {5, 4, 3, 2, 1, 0, 1, 2, 3, 4}, {1, 2, 3, 4, 5, 4, 3, 2, 1, 0}};
        int[] drums = {0, 1, 6, 5, 9};
        for (int k = 0; k < drums.length; k++) {
            x = Due.front("d" + drums[k] + "0 p000 p100 p200 p300 p400 p500");
            for (int i = 0; i < 6; i++) Due.one(x, i, 4, ways[k][i]);
            for (int place = 6; place <= 9; place++) {
                x.stand(0, place);
                Due.one(x, 0, 4, ways[k][place]);
            }
        }
        Due.says("Promise 12", "BAD");
        for (int i : new int[] {-1, 6, LOW, HIGH}) Edges.refused(Edges::people, "one(" + i + ", 0)", y -> y.one(i, 0), BAD);
        for (int what : new int[] {-1, 5, LOW, HIGH}) {
            Edges.refused(Edges::people, "one(0, " + what + ")", y -> y.one(0, what), BAD);
        }
        Edges.refused(Edges::full, "one(2, 0) of two", y -> y.one(2, 0), BAD);
        Edges.refused(Edges::bare, "one(0, 0) of none", y -> y.one(0, 0), BAD);
    }

    private static void mark() {
        Due.says("Promise 13", "one with a BEARD (BISHOP, too) how much others of PEOPLE HAVE in all");
        Due.is("a beard alone", Due.front("d00 b030").mark(0, 1), 0);
        Due.is("a bishop alone", Due.front("d00 i030").mark(0, 1), 0);
        FlossRumours x = Due.front("d00 b030 p030 g030 w030 i030 l030");
        Due.is("a beard", x.mark(0, 1), 150);
        Due.is("a bishop", x.mark(4, 1), 150);
        Due.is("the last one", Due.front("d00 p001 p002 b004").mark(2, 1), 3);
        Due.says("Promise 13", "one with a BAG how much it lacks to 30");
        x = Due.front("d00 g000 g001 g029 g030");
        int[] lacks = {30, 29, 1, 0};
        for (int i = 0; i < 4; i++) Due.is("bag " + i, x.mark(i, 2), lacks[i]);
        Due.says("Promise 13", "a WASP (GIRL, too) the least CLOUD (0 .. 60) of which it GATHERS as much as now");
        int[] sizes = {0, 1, 2, 3, 19, 20, 21, 40, 59, 60};
        int[] wasps = {0, 0, 2, 2, 18, 20, 20, 40, 58, 60};
        int[] girls = {0, 0, 2, 2, 18, 20, 21, 40, 59, 60};
        for (int k = 0; k < sizes.length; k++) {
            x = Due.front("d00 w500 l500");
            Due.spoons(x, sizes[k]);
            Due.is("a wasp by " + sizes[k], x.mark(0, 3), wasps[k]);
            Due.is("a girl by " + sizes[k], x.mark(1, 3), girls[k]);
        }
        Due.says("Promise 13", "a BISHOP how much a SPOON could put to the CLOUD yet");
        for (int size : new int[] {0, 1, 59, 60}) {
            x = Due.front("d00 i500");
            Due.spoons(x, size);
            Due.is("a bishop by " + size, x.mark(0, 4), 60 - size);
        }
        Due.says("Promise 13", "a GIRL how much the CLOUD lacks till it is wound (0: it is 20 or more)");
        int[] clouds = {0, 1, 19, 20, 21, 60};
        int[] till = {20, 19, 1, 0, 0, 0};
        for (int k = 0; k < clouds.length; k++) {
            x = Due.front("d00 l500");
            Due.spoons(x, clouds[k]);
            Due.is("a girl by " + clouds[k], x.mark(0, 5), till[k]);
        }
    }

    private static void markRefused() {
        Due.says("Promise 13", "BAD");
        for (int i : new int[] {-1, 6, LOW, HIGH}) Edges.refused(Edges::people, "mark(" + i + ", 1)", y -> y.mark(i, 1), BAD);
        for (int kind : new int[] {-1, 6, LOW, HIGH}) {
            Edges.refused(Edges::people, "mark(1, " + kind + ")", y -> y.mark(1, kind), BAD);
        }
        Edges.refused(Edges::bare, "mark(0, 1) of none", y -> y.mark(0, 1), BAD);
        Due.says("Promise 13", "BAD: also KIND 0");
        for (int i = 0; i < 6; i++) {
            int one = i;
            Edges.refused(Edges::people, "mark(" + i + ", 0)", y -> y.mark(one, 0), BAD);
        }
        Due.says("Promise 13", "UNLIKE");
        String[] kindsOf = {"0", "01", "02", "03", "014", "035"};
        for (int i = 0; i < 6; i++) {
            for (int kind = 1; kind < 6; kind++) {
                if (kindsOf[i].indexOf('0' + kind) >= 0) continue;
                int one = i, of = kind;
                Edges.found(Edges::people, "mark(" + i + ", " + kind + ")", y -> y.mark(one, of), UNLIKE);
            }
        }
    }
}
