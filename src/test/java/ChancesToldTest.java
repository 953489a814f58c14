/** Promises 36 to 45: chances, lots; what is told. */
public final class ChancesToldTest {
    private static final int BAD = FlossRumours.BAD, FULL = FlossRumours.FULL, STATE = FlossRumours.STATE;
    private static final int LOW = Integer.MIN_VALUE, HIGH = Integer.MAX_VALUE;

    public static void main(String[] args) {
        odds();
        mid();
        lots();
        lotsRefused();
        asked();
        upperLower();
        count();
        findings();
        digest();
        Due.end();
    }

    private static void odds() {
        FlossRumours x = Due.front("d00 g000 p000");
        Due.parts(x, "no cloud", x.odds(0, 0), 0, 1);
        x.spoon(9);
        Due.parts(x, "odds(1, 6)", x.odds(1, 6), 1, 4);
        Due.parts(x, "odds(0, 3)", x.odds(0, 3), 3, 4);
        Due.parts(x, "odds(0, 0)", x.odds(0, 0), 1, 1);
        Due.parts(x, "odds(1, 0)", x.odds(1, 0), 0, 1);
        Due.parts(x, "odds(0, 12)", x.odds(0, 12), 0, 1);
        Due.parts(x, "odds(1, 1)", x.odds(1, 1), 11, 144);
        long before = x.upper();
        Due.is("odds(2, 1)", x.odds(2, 1), BAD);
        Due.is("odds(-1, 1)", x.odds(-1, 1), BAD);
        Due.is("odds(0, 13)", x.odds(0, 13), BAD);
        Due.is("odds(0, -1)", x.odds(0, -1), BAD);
        Due.is("no people", new FlossRumours().odds(0, 0), BAD);
        Due.is("upper", x.upper(), before);
        // the last of six bags by 9 gathers only if the five ahead of it are away
        x = Due.front("d00 g000 g000 g000 g000 g000 g000");
        x.spoon(9);
        Due.parts(x, "odds(5, 1)", x.odds(5, 1), 11, 2985984);
    }

    private static void mid() {
        FlossRumours x = new FlossRumours();
        Due.is("mid, no people", x.mid(0), STATE);
        Due.is("mid(13), no people", x.mid(13), BAD);
        x = Due.front("d00 g000 p000");
        Due.parts(x, "no cloud", x.mid(5), 0, 1);
        x.spoon(9);
        Due.parts(x, "mid(6)", x.mid(6), 4, 1);
        Due.parts(x, "mid(3)", x.mid(3), 15, 8);
        Due.parts(x, "mid(0)", x.mid(0), 0, 1);
        Due.parts(x, "mid(12)", x.mid(12), 9, 1);
        Due.is("mid(-1)", x.mid(-1), BAD);
        Due.is("mid(13)", x.mid(13), BAD);
        x = Due.front("d02 i000");
        x.spoon(4);
        // 6: 7 behind the bishop, 6 if he is away
        Due.parts(x, "mid(4)", x.mid(4), 20, 3);
    }

    /** The LOTS of seed 1: TURN, SPOON 9, TURN, STAND at 9, RAIN, SPOON 7, TURN, TURN, TURN, STAND at 7. */
    private static void lots() {
        int[] all = {0, 0, 2, 2, 2, 2, 1, 0, 0, 0};
        int[] cloud = {0, 9, 7, 7, 7, 14, 7, 3, 1, 1};
        int[] turns = {1, 1, 2, 2, 2, 2, 3, 4, 5, 5};
        int[] place = {0, 0, 0, 9, 9, 9, 9, 9, 9, 7};
        FlossRumours x = Due.front("d00 p000");
        for (int n = 1; n <= 10; n++) {
            x.undo(0);
            Due.is("lots(" + n + ", 1)", x.lots(n, 1), all[n - 1]);
            Due.is("the cloud", x.count(1), cloud[n - 1]);
            Due.is("the next turn", x.count(5), turns[n - 1]);
            Due.is("rain", x.count(4), n < 5 ? 0 : 1);
            Due.is("deeds", x.count(6), n);
            Due.one(x, 0, 1, place[n - 1]);
        }
        Due.is("truly deeds", x.undo(3), 7);
        Due.is("the cloud", x.count(1), 7);
        Due.is("rain", x.count(4), 0);
        x = Due.front("d00 p900");
        Due.is("lots(4, 1)", x.lots(4, 1), 0);
        Due.is("a deed in any case", x.count(6), 4);
        // 1914720637 modulo 3 is 1
        x = Due.front("d00 p000 b000 g000");
        x.lots(4, 1);
        Due.one(x, 0, 1, 0);
        Due.one(x, 1, 1, 9);
        Due.one(x, 2, 1, 0);
        Due.is("the greatest seed", x.lots(20, 2147483646) >= 0 ? 1 : 0, 1);
        Due.is("deeds", x.count(6), 24);
        // the LOTS of seed 56: TURN, RAIN, RAIN
        x = Due.front("d00 p000");
        x.lots(2, 56);
        Due.is("it rains", x.count(4), 1);
        x.undo(0);
        x.lots(3, 56);
        Due.is("no more", x.count(4), 0);
        windByLots();
    }

    private static void windByLots() {
        for (int seed = 1; seed < 500; seed++) {
            long lot = seed * 48271L % 2147483647L;
            if (lot / 8 % 8 == 5) {
                FlossRumours x = Due.front("d00 p000");
                Due.is("lots(1, " + seed + ")", x.lots(1, seed), 0);
                Due.is("the wind", x.count(3), lot / 64 % 3);
                Due.is("a deed in any case", x.count(6), 1);
            }
        }
    }

    private static void lotsRefused() {
        FlossRumours x = new FlossRumours();
        Due.is("lots, no people", x.lots(1, 1), STATE);
        Due.is("lots(0, 1), no people", x.lots(0, 1), BAD);
        x = Due.front("d00 p000");
        for (int n : new int[] {0, 21, -1, LOW, HIGH}) Due.is("lots n " + n, x.lots(n, 1), BAD);
        for (int seed : new int[] {0, -1, LOW, HIGH}) Due.is("lots seed " + seed, x.lots(1, seed), BAD);
        x.lots(20, 5);
        x.lots(1, 5);
        long before = x.digest();
        Due.is("one too many", x.lots(20, 5), FULL);
        Due.is("nothing changes", x.digest(), before);
        Due.is("just as many", x.lots(19, 5) >= 0 ? 1 : 0, 1);
        Due.is("full", x.lots(1, 5), FULL);
        Due.is("BAD ahead of FULL", x.lots(1, 0), BAD);
        Due.is("deeds", x.count(6), 40);
    }

    private static void asked() {
        FlossRumours x = new FlossRumours();
        Due.is("asked", x.asked(), 0);
        Due.row(x, 0, 44, 0);
        x.at(0, 0);
        Due.is("at", x.asked(), 44);
        x.at(0, 2);
        x.at(9, 0);
        x.mean(1);
        x.row(2, 3);
        x.text(0, 5);
        x.put(0, 0, 7);
        x.fault(0);
        x.turn();
        Due.is("still", x.asked(), 44);
        Due.write(x, 0, "d50 p900 w512");
        x.front(0);
        x.spoon(8);
        x.mark(1, 3);
        x.gathers(0, 4);
        x.share(0, 4);
        x.first(0);
        x.least(1, 1);
        x.keep(0);
        x.on(0);
        x.undo(0);
        x.lots(3, 3);
        x.odds(0, 1);
        x.mid(1);
        x.count(0);
        x.digest();
        x.undo(0);
        Due.is("still", x.asked(), 44);
        Due.row(x, 1, 0);
        x.at(0, 0);
        x.sizes(0, 1);
        x.winds(0, 1);
        x.kinds(0, 1);
        Due.is("still", x.asked(), 44);
    }

    private static void upperLower() {
        FlossRumours x = Due.front("d00 p000 b003");
        Due.is("upper", x.upper(), 0);
        Due.is("lower", x.lower(), 1);
        x.spoon(5);
        Due.parts(x, "odds", x.odds(0, 5), 7, 12);
        x.sets(-1);
        x.sure(3);
        x.mid(-1);
        Due.is("upper still", x.upper(), 7);
        Due.is("lower still", x.lower(), 12);
        Due.parts(x, "sets", x.sets(3), 2, 1);
    }

    private static void count() {
        FlossRumours x = Due.front("d64 p105 b212 g300 w401 i502 l624");
        x.spoon(9);
        x.spoon(9);
        x.wind(2);
        x.turn();
        x.rain(1);
        x.keep(1);
        x.keep(2);
        x.row(3, 1);
        x.text(3, 1);
        x.text(2, 1);
        int[] want = {6, 22, 7, 2, 1, 1, 5, 6, 4, 44, 2, 2, 1, 3, 2};
        for (int what = 0; what <= 14; what++) Due.is("count(" + what + ")", x.count(what), want[what]);
        for (int what : new int[] {-1, 15, LOW, HIGH}) Due.is("count(" + what + ")", x.count(what), BAD);
        x = Due.front("d00 b000 i000 b000 w000 l000");
        Due.is("beards", x.count(10), 3);
        Due.is("wasps", x.count(11), 2);
        x = Due.front("d00 l000 w000 i000");
        Due.is("beards", x.count(10), 1);
        Due.is("wasps", x.count(11), 2);
    }

    private static void findings() {
        FlossRumours x = Due.front("d00 p000");
        Due.is("finding", x.finding(), 0);
        for (int f = 1; f <= 5; f++) Due.is("findings(" + f + ")", x.findings(f), 0);
        for (int f : new int[] {0, 6, -1, LOW, HIGH}) Due.is("findings(" + f + ")", x.findings(f), BAD);
        Due.finding(x, "SIZE", x.row(0, -1), 5);
        Due.finding(x, "NOTHING", x.tear(0), 1);
        Due.finding(x, "NOTHING", x.tear(0), 1);
        x.row(0, 0);
        Due.finding(x, "BEYOND", x.at(0, 0), 2);
        Due.finding(x, "UNLIKE", x.mark(0, 1), 3);
        Due.finding(x, "NOUGHT", x.mean(0), 4);
        Due.finding(x, "NOUGHT", x.sure(1), 4);
        Due.finding(x, "SIZE", x.text(0, -1), 5);
        Due.finding(x, "SIZE", x.sizes(0, 0), 5);
        x.spoon(0);
        x.rain(0);
        Due.is("BAD, STATE are none", x.finding(), 5);
        int[] often = {0, 2, 1, 1, 2, 3};
        for (int f = 1; f <= 5; f++) Due.is("findings(" + f + ")", x.findings(f), often[f]);
    }

    private static void digest() {
        FlossRumours x = new FlossRumours();
        Due.is("digest of a new one", x.digest(), digestOf(
            0, 0, 0, 1, 0, 0, 0, 0, 0, 0, 0, 0, 0, 0, 0, -1, -1, -1, -1, -1, -1, -1, -1, -1, -1, -1, -1, -1));
        Due.write(x, 0, "d51 p912 l203");
        x.front(0);
        x.spoon(9);
        x.keep(1);
        x.wind(0);
        x.turn();
        Due.row(x, 4, -7, HIGH);
        x.row(0, 0);
        x.text(2, 2);
        x.put(2, 1, 200);
        long want = digestOf(
            2, 10, 4, 0, 0, 1, 3, 5, 1, 15, 0, 1, 2, 2, 1,
            0, 9, 12, 2, 5, 5, 2, 3, 5, 2,
            -1, 1, -1,
            0, -1, -1, -1, 2, -7, HIGH, -1,
            13, 'd', '5', '1', ' ', 'p', '9', '1', '2', ' ', 'l', '2', '0', '3', -1, 2, 32, (byte) 200, -1);
        Due.is("digest", x.digest(), want);
        Due.is("again", x.digest(), want);
    }

    private static long digestOf(long... values) {
        long h = 17;
        for (long v : values) h = 31 * h + v;
        return h;
    }
}
