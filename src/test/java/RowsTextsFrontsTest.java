/** Promises 1 to 13. */
public final class RowsTextsFrontsTest {
    private static final int BAD = FlossRumours.BAD, STATE = FlossRumours.STATE, NONE = FlossRumours.NONE;
    private static final int NOTHING = 1, BEYOND = 2, UNLIKE = 3, NOUGHT = 4, SIZE = 5;
    private static final int LOW = Integer.MIN_VALUE, HIGH = Integer.MAX_VALUE;

    public static void main(String[] args) {
        newObject();
        row();
        layAt();
        tear();
        copy();
        mean();
        text();
        put();
        fault();
        front();
        one();
        mark();
        Due.end();
    }

    private static void newObject() {
        FlossRumours x = new FlossRumours();
        for (int what = 0; what <= 14; what++) Due.is("count(" + what + ")", x.count(what), what == 3 ? 1 : 0);
        for (int r = 0; r < 6; r++) Due.finding(x, "tear", x.tear(r), NOTHING);
        for (int t = 0; t < 4; t++) Due.finding(x, "fault", x.fault(t), NOTHING);
        for (int k = 0; k < 3; k++) Due.finding(x, "on", x.on(k), NOTHING);
        Due.is("one", x.one(0, 0), BAD);
    }

    private static void row() {
        FlossRumours x = new FlossRumours();
        Due.is("row(0, 0)", x.row(0, 0), 0);
        Due.is("row(5, 40)", x.row(5, 40), 40);
        Due.is("rows", x.count(12), 2);
        Due.is("row(6, 1)", x.row(6, 1), BAD);
        Due.is("row(-1, 1)", x.row(-1, 1), BAD);
        Due.is("row(0, 41)", x.row(0, 41), BAD);
        Due.is("row(0, HIGH)", x.row(0, HIGH), BAD);
        Due.is("row(6, -1): BAD ahead of SIZE", x.row(6, -1), BAD);
        Due.is("finding", x.finding(), 0);
        Due.finding(x, "row(5, -1)", x.row(5, -1), SIZE);
        Due.finding(x, "row(5, LOW)", x.row(5, LOW), SIZE);
        Due.is("lay", x.lay(5, 39, 7), 1);
        Due.is("row anew", x.row(5, 40), 40);
        Due.asked(x, "at", x.at(5, 39), 1, 0);
        x.lay(5, 3, 8);
        x.row(5, 2);
        x.row(5, 4);
        Due.asked(x, "at: 0 again", x.at(5, 3), 1, 0);
    }

    private static void layAt() {
        FlossRumours x = new FlossRumours();
        Due.finding(x, "lay: none there", x.lay(2, 0, 1), NOTHING);
        Due.finding(x, "at: none there", x.at(2, -1), NOTHING);
        x.row(2, 3);
        Due.asked(x, "lay", x.lay(2, 2, LOW), 1, 0);
        Due.asked(x, "lay", x.lay(2, 2, HIGH), 1, LOW);
        Due.asked(x, "lay", x.lay(2, 2, -5), 1, HIGH);
        Due.asked(x, "at", x.at(2, 2), 1, -5);
        Due.asked(x, "at", x.at(2, 0), 1, 0);
        x.at(2, 2);
        for (int i : new int[] {-1, 3, 40, LOW, HIGH}) {
            Due.finding(x, "lay(2, " + i + ")", x.lay(2, i, 1), BEYOND);
            Due.finding(x, "at(2, " + i + ")", x.at(2, i), BEYOND);
        }
        for (int r : new int[] {-1, 6, LOW, HIGH}) {
            Due.is("lay(" + r + ")", x.lay(r, 0, 1), BAD);
            Due.is("at(" + r + ")", x.at(r, 0), BAD);
        }
        Due.is("asked", x.asked(), -5);
    }

    private static void tear() {
        FlossRumours x = new FlossRumours();
        x.row(1, 4);
        x.row(2, 4);
        Due.is("tear", x.tear(1), 1);
        Due.finding(x, "tear again", x.tear(1), NOTHING);
        Due.finding(x, "at", x.at(1, 0), NOTHING);
        Due.is("rows", x.count(12), 1);
        Due.is("tear(-1)", x.tear(-1), BAD);
        Due.is("tear(6)", x.tear(6), BAD);
    }

    private static void copy() {
        FlossRumours x = new FlossRumours();
        Due.row(x, 0, 1, 2, 3, 4, 5);
        Due.row(x, 1, 0, 0, 0);
        Due.is("copy", x.copy(0, 1, 1, 0, 3), 1);
        row(x, 1, 2, 3, 4);
        row(x, 0, 1, 2, 3, 4, 5);
        Due.is("copy on", x.copy(0, 0, 0, 1, 4), 1);
        row(x, 0, 1, 1, 2, 3, 4);
        Due.is("copy back", x.copy(0, 1, 0, 0, 4), 1);
        row(x, 0, 1, 2, 3, 4, 4);
        Due.is("copy of none", x.copy(0, 5, 1, 3, 0), 1);
        Due.finding(x, "copy beyond", x.copy(0, 6, 1, 0, 0), BEYOND);
        Due.finding(x, "copy beyond", x.copy(0, 0, 1, 4, 0), BEYOND);
        Due.finding(x, "copy beyond", x.copy(0, 3, 1, 0, 3), BEYOND);
        Due.finding(x, "copy beyond", x.copy(0, 0, 1, 1, 3), BEYOND);
        Due.finding(x, "copy beyond", x.copy(0, -1, 1, 0, 1), BEYOND);
        Due.finding(x, "copy beyond", x.copy(0, 0, 1, -1, 1), BEYOND);
        Due.finding(x, "copy beyond", x.copy(0, HIGH, 1, 0, HIGH), BEYOND);
        Due.finding(x, "copy beyond", x.copy(0, 0, 1, LOW, HIGH), BEYOND);
        Due.finding(x, "copy to none", x.copy(0, 9, 3, 0, 1), NOTHING);
        Due.finding(x, "copy of none", x.copy(3, 9, 0, 0, 1), NOTHING);
        Due.finding(x, "copy fewer than none", x.copy(3, 0, 4, 0, -1), SIZE);
        Due.is("copy(6, ..)", x.copy(6, 0, 0, 0, -1), BAD);
        Due.is("copy(.., -1, ..)", x.copy(0, 0, -1, 0, -1), BAD);
        row(x, 0, 1, 2, 3, 4, 4);
        row(x, 1, 2, 3, 4);
    }

    private static void row(FlossRumours x, int r, int... want) {
        for (int i = 0; i < want.length; i++) Due.asked(x, "at(" + r + ", " + i + ")", x.at(r, i), 1, want[i]);
    }

    private static void mean() {
        FlossRumours x = new FlossRumours();
        Due.row(x, 0, 3, 4);
        Due.asked(x, "mean", x.mean(0), 1, 3);
        Due.row(x, 0, -3, -4);
        Due.asked(x, "mean, cut", x.mean(0), 1, -3);
        Due.row(x, 0, HIGH, HIGH, HIGH);
        Due.asked(x, "mean of great ones", x.mean(0), 1, HIGH);
        Due.row(x, 0, LOW, LOW);
        Due.asked(x, "mean of low ones", x.mean(0), 1, LOW);
        int[] forty = new int[40];
        java.util.Arrays.fill(forty, HIGH);
        forty[39] = 7;
        Due.row(x, 3, forty);
        Due.asked(x, "mean of forty", x.mean(3), 1, (int) ((39L * HIGH + 7) / 40));
        x.mean(0);
        x.row(1, 0);
        Due.finding(x, "mean of none", x.mean(1), NOUGHT);
        Due.finding(x, "mean of what is missing", x.mean(2), NOTHING);
        Due.is("mean(-1)", x.mean(-1), BAD);
        Due.is("mean(6)", x.mean(6), BAD);
        Due.is("asked", x.asked(), LOW);
    }

    private static void text() {
        FlossRumours x = new FlossRumours();
        Due.is("text(0, 0)", x.text(0, 0), 0);
        Due.is("text(3, 60)", x.text(3, 60), 60);
        Due.is("texts", x.count(13), 2);
        Due.is("text(4, 1)", x.text(4, 1), BAD);
        Due.is("text(-1, 1)", x.text(-1, 1), BAD);
        Due.is("text(0, 61)", x.text(0, 61), BAD);
        Due.is("text(4, -1)", x.text(4, -1), BAD);
        Due.finding(x, "text(0, -1)", x.text(0, -1), SIZE);
        Due.is("put", x.put(3, 59, 65), 1032);
        x.text(3, 60);
        Due.is("blank again", x.put(3, 59, 65), 1032);
    }

    private static void put() {
        FlossRumours x = new FlossRumours();
        Due.finding(x, "put: none there", x.put(0, 0, 1), NOTHING);
        x.text(0, 2);
        Due.is("put", x.put(0, 1, 200), 1032);
        Due.is("put: a byte below 0", x.put(0, 1, 256), 1000 + (byte) 200);
        Due.is("put", x.put(0, 1, -1), 1000);
        Due.is("put", x.put(0, 1, 127), 999);
        Due.is("put", x.put(0, 1, 128), 1127);
        Due.is("put", x.put(0, 1, 0), 872);
        for (int i : new int[] {-1, 2, 60, LOW, HIGH}) Due.finding(x, "put " + i, x.put(0, i, 1), BEYOND);
        Due.is("put(-1)", x.put(-1, 0, 1), BAD);
        Due.is("put(4)", x.put(4, 0, 1), BAD);
    }

    private static void fault() {
        String six = "d00p000p000p000p000p000p000";
        faultIs("", 0);
        faultIs("   ", 3);
        faultIs("x", 0);
        faultIs(" d", 2);
        faultIs("D34p000", 0);
        faultIs("d3", 2);
        faultIs("dx4p000", 1);
        faultIs("d 34p000", 1);
        faultIs("d3 4p000", 2);
        faultIs("d34", 3);
        faultIs("d34  ", 5);
        faultIs("d345", 3);
        faultIs("d34d34p000", 3);
        faultIs("d34q000", 3);
        faultIs("d34P000", 3);
        faultIs("d34p", 4);
        faultIs("d34p0", 5);
        faultIs("d34p00", 6);
        faultIs("d34p000", NONE);
        faultIs("  d34   p000  b930l915  ", NONE);
        faultIs("d34px00", 4);
        faultIs("d34p0x0", 5);
        faultIs("d34p00x", 6);
        faultIs("d34 p 000", 5);
        faultIs("d34 p0 00", 6);
        faultIs("d34 p00 0", 7);
        faultIs("d34p031", 5);
        faultIs("d34p099", 5);
        faultIs("d34p040", 5);
        faultIs("d34p030", NONE);
        faultIs("d34p04", 6);
        faultIs("d34p04x", 6);
        faultIs("d34p0000", 7);
        faultIs("d34b000g000w000i000l000", NONE);
        faultIs(six, NONE);
        faultIs(six + "  ", NONE);
        faultIs(six + "p000", 27);
        faultIs(six + " x", 28);
        faultIs("d34p000" + (char) 200, 7);
        faultIs(" ".repeat(60), 60);
        faultIs(" ".repeat(59) + "d", 60);
        faultIs("d34" + " ".repeat(54) + "p00", 60);
        faultIs("d34" + " ".repeat(53) + "p000", NONE);
        faultIs("d34" + " ".repeat(57), 60);
        FlossRumours x = new FlossRumours();
        Due.is("fault(4)", x.fault(4), BAD);
        Due.is("fault(-1)", x.fault(-1), BAD);
        Due.finding(x, "fault", x.fault(3), NOTHING);
    }

    private static void faultIs(String text, int want) {
        FlossRumours x = new FlossRumours();
        Due.write(x, 1, text);
        Due.is("fault of " + text, x.fault(1), want);
        if (want != NONE) Due.is("front of " + text, x.front(1), STATE);
        Due.is("finding", x.finding(), 0);
    }

    private static void front() {
        FlossRumours x = Due.front("d34 p305 b912");
        Due.is("drum", x.count(7), 3);
        Due.is("growth", x.count(8), 4);
        Due.is("the cloud's place", x.count(2), 3);
        x.spoon(9);
        x.wind(2);
        x.rain(1);
        x.turn();
        x.keep(0);
        long before = x.digest();
        Due.is("front(4)", x.front(4), BAD);
        Due.is("front(-1)", x.front(-1), BAD);
        Due.finding(x, "front(3)", x.front(3), NOTHING);
        Due.is("refused: nothing changes", x.digest(), before);
        Due.write(x, 1, "d34 p305 b93");
        before = x.digest();
        Due.is("front of a fault", x.front(1), STATE);
        Due.is("refused: nothing changes", x.digest(), before);
        Due.write(x, 1, "d71l829");
        Due.is("front anew", x.front(1), 1);
        int[] want = {1, 0, 7, 1, 0, 0, 0, 7, 1, 29, 0, 1, 0, 2, 0};
        for (int what = 0; what <= 14; what++) Due.is("count(" + what + ")", x.count(what), want[what]);
        Due.one(x, 0, 0, 5);
        Due.one(x, 0, 1, 8);
        Due.one(x, 0, 2, 29);
        Due.finding(x, "kept fronts go", x.on(0), NOTHING);
        Due.is("of one only", x.one(1, 0), BAD);
    }

    private static void one() {
        FlossRumours x = Due.front("d30 p905 b812 g400 w300 i230 l524");
        int[] places = {9, 8, 4, 3, 2, 5};
        int[] has = {5, 12, 0, 0, 30, 24};
        int[] ways = {4, 5, 1, 0, 1, 2};
        for (int i = 0; i < 6; i++) {
            int[] kinds = {0, 1, 2, 3, 4, 5};
            Due.one(x, i, 0, kinds[i]);
            Due.one(x, i, 1, places[i]);
            Due.one(x, i, 2, has[i]);
            Due.one(x, i, 3, 0);
            Due.one(x, i, 4, ways[i]);
        }
        Due.spoons(x, 21);
        int[] parts = {2, 2, 9, 10, 2, 21};
        for (int i = 0; i < 6; i++) Due.one(x, i, 3, parts[i]);
        Due.is("one(6, 0)", x.one(6, 0), BAD);
        Due.is("one(-1, 0)", x.one(-1, 0), BAD);
        Due.is("one(0, 5)", x.one(0, 5), BAD);
        Due.is("one(0, -1)", x.one(0, -1), BAD);
        Due.is("asked", x.asked(), 21);
    }

    private static void mark() {
        FlossRumours x = Due.front("d30 p905 b812 g402 w300 i230 l524");
        boolean[][] is = new boolean[6][6];
        is[1][1] = is[2][2] = is[3][3] = is[4][4] = is[5][5] = is[4][1] = is[5][3] = true;
        for (int i = 0; i < 6; i++) {
            for (int kind = 1; kind < 6; kind++) {
                if (!is[i][kind]) Due.finding(x, "mark(" + i + ", " + kind + ")", x.mark(i, kind), UNLIKE);
            }
            Due.is("mark(.., 0)", x.mark(i, 0), BAD);
            Due.is("mark(.., 6)", x.mark(i, 6), BAD);
            Due.is("mark(.., -1)", x.mark(i, -1), BAD);
        }
        Due.is("mark(6, 1)", x.mark(6, 1), BAD);
        Due.is("mark(-1, 1)", x.mark(-1, 1), BAD);
        Due.is("a beard", x.mark(1, 1), 61);
        Due.is("a bishop as a beard", x.mark(4, 1), 43);
        Due.is("a bag", x.mark(2, 2), 28);
        int[] sizes = {0, 1, 19, 20, 21, 60};
        int[] wasps = {0, 0, 18, 20, 20, 60};
        int[] girls = {0, 0, 18, 20, 21, 60};
        int[] wound = {20, 19, 1, 0, 0, 0};
        for (int k = 0; k < sizes.length; k++) {
            x.undo(0);
            Due.spoons(x, sizes[k]);
            Due.is("a wasp by " + sizes[k], x.mark(3, 3), wasps[k]);
            Due.is("a girl as a wasp by " + sizes[k], x.mark(5, 3), girls[k]);
            Due.is("a bishop by " + sizes[k], x.mark(4, 4), 60 - sizes[k]);
            Due.is("a girl by " + sizes[k], x.mark(5, 5), wound[k]);
        }
        Due.is("asked is not told", x.asked(), 0);
    }
}
