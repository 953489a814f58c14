import java.util.Random;

/** Random runs of calls, good and bad ones, on the program and on the model: every answer is the same. */
public final class RandomRunsTest {
    /** Nothing is promised behind the 512th call; a front that is written and what is told need some 80 calls more. */
    private static final int RUNS = 6000, CALLS = 430;
    private static final int[] ODD = {-1, -2, Integer.MIN_VALUE, Integer.MAX_VALUE, 41, 61, 64, 100, 7, 181, 13};

    private final Random random;
    private final FlossRumours x = new FlossRumours();
    private final Model m = new Model();
    private final StringBuilder told = new StringBuilder();
    private int calls = 0;

    private RandomRunsTest(long seed) {
        random = new Random(seed);
    }

    public static void main(String[] args) {
        for (int run = 0; run < RUNS; run++) {
            if (!new RandomRunsTest(run).run(run)) break;
        }
        Due.end();
    }

    private boolean run(int run) {
        boolean early = random.nextInt(4) > 0;
        while (calls < CALLS) {
            if (early && calls == 0 || random.nextInt(90) == 0) {
                writeFront();
                if (!same(run, "front", x.front(0), m.front(0))) return false;
            }
            if (random.nextInt(25) == 0) writeHad();
            if (!call(run) || !told(run)) return false;
        }
        return true;
    }

    private boolean told(int run) {
        if (!same(run, "digest", x.digest(), m.digest())) return false;
        switch (random.nextInt(5)) {
            case 0: return same(run, "finding", x.finding(), m.finding());
            case 1: return same(run, "upper", x.upper(), m.upper()) && same(run, "lower", x.lower(), m.lower());
            default: return same(run, "asked", x.asked(), m.asked());
        }
    }

    private boolean same(int run, String call, long got, long want) {
        calls++;
        if (got != want) System.out.println("run " + run + told);
        Due.is(call, got, want);
        return got == want;
    }

    /** Mostly low .. high, at times a number that is none. */
    private int pick(int low, int high) {
        int odd = random.nextInt(25);
        if (odd == 0) return ODD[random.nextInt(ODD.length)];
        if (odd == 1) return high + 1;
        return low + random.nextInt(high - low + 1);
    }

    private int who() {
        return pick(0, Math.max(0, m.count(0) - 1));
    }

    private void writeFront() {
        StringBuilder s = new StringBuilder();
        blanks(s);
        s.append('d').append(random.nextInt(10)).append(random.nextInt(10));
        int people = 1 + random.nextInt(6), near = random.nextInt(10), wide = 1 + random.nextInt(10);
        for (int i = 0; i < people; i++) {
            blanks(s);
            s.append("pbgwil".charAt(random.nextInt(6))).append((near + random.nextInt(wide)) % 10);
            int has = random.nextInt(random.nextBoolean() ? 31 : 6);
            s.append(has / 10).append(has % 10);
        }
        blanks(s);
        if (random.nextInt(5) == 0) spoil(s);
        x.text(0, s.length());
        m.text(0, s.length());
        for (int i = 0; i < s.length(); i++) {
            x.put(0, i, s.charAt(i));
            m.put(0, i, s.charAt(i));
        }
        calls += s.length() + 1;
        told.append(" text ").append(s);
    }

    private void blanks(StringBuilder s) {
        for (int k = random.nextInt(4); k > 1; k--) s.append(' ');
    }

    private void spoil(StringBuilder s) {
        int at = random.nextInt(s.length());
        switch (random.nextInt(4)) {
            case 0: s.setLength(at); break;
            case 1: s.insert(at, "p0123 dq".charAt(random.nextInt(8))); break;
            case 2: s.setCharAt(at, (char) (random.nextBoolean() ? random.nextInt(256) : '0' + random.nextInt(10))); break;
            default: s.append("p000b111"); break;
        }
    }

    /** What one truly will have, perhaps by another cloud, so that the questions of part 5 have answers. */
    private void writeHad() {
        int r = random.nextInt(6), n = 1 + random.nextInt(4), i = random.nextInt(Math.max(1, m.count(0)));
        x.row(r, n);
        m.row(r, n);
        for (int k = 0; k < n; k++) {
            int has = Math.max(0, m.share(i, k + 1)) + (random.nextInt(6) == 0 ? 1 : 0);
            x.lay(r, k, has);
            m.lay(r, k, has);
        }
        calls += n + 1;
        told.append(" had ").append(i).append(" in row ").append(r);
    }

    private boolean call(int run) {
        int which = random.nextInt(52), a, b, c;
        told.append(' ').append(which);
        switch (which) {
            case 0: a = pick(0, 5); b = pick(0, random.nextBoolean() ? 40 : 10); return same(run, "row", x.row(a, b), m.row(a, b));
            case 1: a = pick(0, 5); b = pick(0, 10); c = random.nextBoolean() ? random.nextInt() : pick(0, 30);
                return same(run, "lay", x.lay(a, b, c), m.lay(a, b, c));
            case 2: a = pick(0, 5); b = pick(0, 10); return same(run, "at", x.at(a, b), m.at(a, b));
            case 3: a = pick(0, 5); return same(run, "tear", x.tear(a), m.tear(a));
            case 4: a = pick(0, 5); b = pick(0, 5); c = pick(0, 10); int d = pick(0, 10), e = pick(0, 10);
                return same(run, "copy", x.copy(a, c, b, d, e), m.copy(a, c, b, d, e));
            case 5: a = pick(0, 5); return same(run, "mean", x.mean(a), m.mean(a));
            case 6: a = pick(1, 3); b = pick(0, 60); return same(run, "text", x.text(a, b), m.text(a, b));
            case 7: a = pick(0, 3); b = pick(0, 30); c = random.nextInt(); return same(run, "put", x.put(a, b, c), m.put(a, b, c));
            case 8: a = pick(0, 3); return same(run, "fault", x.fault(a), m.fault(a));
            case 9: a = pick(1, 3); return same(run, "front", x.front(a), m.front(a));
            case 10: a = who(); b = pick(0, 4); return same(run, "one", x.one(a, b), m.one(a, b));
            case 11: case 12: a = who(); b = pick(0, 5); return same(run, "mark", x.mark(a, b), m.mark(a, b));
            case 13: case 14: case 15: case 16: case 17: return same(run, "turn", x.turn(), m.turn());
            case 18: case 19: case 20: case 21: a = pick(1, 9); return same(run, "spoon", x.spoon(a), m.spoon(a));
            case 22: a = pick(0, 2); return same(run, "wind", x.wind(a), m.wind(a));
            case 23: a = pick(0, 1); return same(run, "rain", x.rain(a), m.rain(a));
            case 24: a = who(); b = pick(0, 9); return same(run, "stand", x.stand(a, b), m.stand(a, b));
            case 25: a = pick(0, m.count(6) + 1); return same(run, "undo", x.undo(a), m.undo(a));
            case 26: a = pick(0, 2); return same(run, "keep", x.keep(a), m.keep(a));
            case 27: a = pick(0, 2); return same(run, "on", x.on(a), m.on(a));
            case 28: a = who(); b = pick(0, 60); return same(run, "gathers", x.gathers(a, b), m.gathers(a, b));
            case 29: a = pick(0, 40); return same(run, "cloud", x.cloud(a), m.cloud(a));
            case 30: a = who(); b = pick(0, 40); return same(run, "share", x.share(a, b), m.share(a, b));
            case 31: a = who(); return same(run, "first", x.first(a), m.first(a));
            case 32: case 33: a = who(); b = pick(0, 30); c = pick(1, 20);
                return same(run, "away", x.away(a, b, c), m.away(a, b, c));
            case 34: a = who(); b = pick(1, 20); return same(run, "best", x.best(a, b), m.best(a, b));
            case 35: case 36: a = pick(0, (1 << m.count(0)) - 1); b = pick(1, 20);
                return same(run, "least", x.least(a, b), m.least(a, b));
            case 37: a = who(); b = pick(0, 5); return same(run, "sizes", x.sizes(a, b), m.sizes(a, b));
            case 38: a = who(); b = pick(0, 5); return same(run, "winds", x.winds(a, b), m.winds(a, b));
            case 39: a = who(); b = pick(0, 5); return same(run, "kinds", x.kinds(a, b), m.kinds(a, b));
            case 40: case 41: a = who(); b = pick(0, 5); return same(run, "next", x.next(a, b), m.next(a, b));
            case 42: a = pick(0, random.nextBoolean() ? 180 : 40); return same(run, "sets", x.sets(a), m.sets(a));
            case 43: a = pick(0, random.nextBoolean() ? 180 : 40); return same(run, "sure", x.sure(a), m.sure(a));
            case 44: case 45: a = who(); b = who(); c = pick(0, 2); return same(run, "duel", x.duel(a, b, c), m.duel(a, b, c));
            case 46: a = who(); b = pick(0, 12); return same(run, "odds", x.odds(a, b), m.odds(a, b));
            case 47: a = pick(0, 12); return same(run, "mid", x.mid(a), m.mid(a));
            case 48: a = pick(1, 20); b = random.nextInt(); return same(run, "lots", x.lots(a, b), m.lots(a, b));
            case 49: a = pick(0, 14); return same(run, "count", x.count(a), m.count(a));
            case 50: a = pick(1, 5); return same(run, "findings", x.findings(a), m.findings(a));
            default: a = pick(1, 4); b = 1 + random.nextInt(2147483646); return same(run, "lots", x.lots(a, b), m.lots(a, b));
        }
    }
}
