import java.util.function.Supplier;

/** Each sentence of promises 36 to 45 that names a boundary case, by itself. */
public final class EdgesOfChancesToldTest {
    private static final int BAD = Edges.BAD, FULL = Edges.FULL, STATE = Edges.STATE, NONE = Edges.NONE;
    private static final int LOW = Edges.LOW, HIGH = Edges.HIGH;
    private static final int TURN = 0, SPOON = 4, WIND = 5, RAIN = 6, STAND = 7;

    public static void main(String[] args) {
        odds();
        mid();
        lotsOfTurns();
        lotsOfSpoons();
        lotsOfWinds();
        lotsOfRain();
        lotsOfStanding();
        manyLots();
        lotsRefused();
        askedBefore();
        askedByEach();
        notAsked();
        notAskedByNone();
        upperLower();
        count();
        countWithout();
        finding();
        findings();
        digest();
        Due.end();
    }

    private static void odds() {
        Due.says("Promise 36", "Chances that one GATHERS something in it: 1");
        FlossRumours x = Due.front("d00 g000 p000 p500 i030");
        for (int i = 0; i < 4; i++) Due.parts(x, "no cloud, odds(" + i + ", 6)", x.odds(i, 6), 0, 1);
        x.spoon(9);
        Due.parts(x, "not there", x.odds(2, 6), 0, 1);
        Due.parts(x, "it has 30, yet it gathers if the bag is away", x.odds(3, 6), 1, 4);
        Due.is("odds(1, 6)", x.odds(1, 6), 1);
        Due.is("nothing is told by asked()", x.asked(), 0);
        Due.is("nothing is done", x.count(6), 1);
        Due.says("Promise 36", "is away in the next TURN, GATHERS nothing, by p (0 .. 12) of 12, each by itself");
        Due.parts(x, "odds(0, 0)", x.odds(0, 0), 1, 1);
        Due.parts(x, "odds(0, 12)", x.odds(0, 12), 0, 1);
        Due.parts(x, "odds(0, 1)", x.odds(0, 1), 11, 12);
        Due.parts(x, "odds(0, 11)", x.odds(0, 11), 1, 12);
        Due.parts(x, "odds(1, 0)", x.odds(1, 0), 0, 1);
        Due.parts(x, "odds(1, 12)", x.odds(1, 12), 0, 1);
        Due.parts(x, "odds(1, 1)", x.odds(1, 1), 11, 144);
        x = Due.front("d00 g000 g000 g000 g000 g000 g000");
        x.spoon(9);
        Due.parts(x, "the last of six", x.odds(5, 1), 11, 2985984);
        Due.parts(x, "the last of six", x.odds(5, 11), 161051, 2985984);
        Due.says("Promise 36", "BAD");
        for (int i : new int[] {-1, 6, LOW, HIGH}) Edges.refused(Edges::people, "odds(" + i + ", 1)", y -> y.odds(i, 1), BAD);
        for (int p : new int[] {-1, 13, LOW, HIGH}) Edges.refused(Edges::people, "odds(0, " + p + ")", y -> y.odds(0, p), BAD);
        Edges.refused(Edges::full, "odds(2, 1) of two", y -> y.odds(2, 1), BAD);
        Edges.refused(Edges::bare, "odds(0, 0) of none", y -> y.odds(0, 0), BAD);
    }

    private static void mid() {
        Due.says("Promise 37", "The mean of the CLOUD behind it: 1");
        FlossRumours x = Due.front("d08 p000 i000");
        Due.parts(x, "no cloud", x.mid(6), 0, 1);
        Due.spoons(x, 60);
        Due.parts(x, "mid(12): 60 at most", x.mid(12), 60, 1);
        // 58 and the bishop makes 59; 58; 60; 60, each by 36 of 144
        Due.parts(x, "mid(6)", x.mid(6), 237, 4);
        Due.parts(x, "mid(0)", x.mid(0), 59, 1);
        Due.is("nothing is done", x.count(1), 60);
        Due.is("nothing is told by asked()", x.asked(), 0);
        x.rain(1);
        Due.parts(x, "in rain half, nobody there", x.mid(12), 30, 1);
        x = Due.front("d00 g000");
        x.spoon(9);
        Due.parts(x, "all is gathered", x.mid(0), 0, 1);
        Due.parts(x, "mid(1)", x.mid(1), 3, 4);
        Due.says("Promise 37", "BAD");
        for (int p : new int[] {-1, 13, LOW, HIGH}) {
            Edges.refused(Edges::people, "mid(" + p + ")", y -> y.mid(p), BAD);
            Edges.refused(Edges::bare, "mid(" + p + "), no people", y -> y.mid(p), BAD);
        }
        Due.says("Promise 37", "STATE: no PEOPLE");
        Edges.refused(Edges::bare, "mid(0)", y -> y.mid(0), STATE);
        Edges.refused(Edges::bare, "mid(12)", y -> y.mid(12), STATE);
    }

    private static long firstLot(int seed) {
        return seed * 48271L % 2147483647L;
    }

    /** A seed whose first number is for a DEED of this kind, and by 64, cut, modulo m is rest. */
    private static int seedFor(int what, int m, int rest) {
        for (int seed = 1; seed < 1000000; seed++) {
            long lot = firstLot(seed);
            if (lot / 8 % 8 == what && lot / 64 % m == rest) return seed;
        }
        return 0;
    }

    private static void lotsOfTurns() {
        Due.says("Promise 38", "0 to 3 a TURN");
        for (int what = TURN; what < SPOON; what++) {
            FlossRumours x = Due.front("d00 p030 b500");
            x.spoon(9);
            Due.is("what all have then", x.lots(1, seedFor(what, 1, 0)), 30);
            Due.is("the next turn", x.count(5), 1);
            Due.cloud(x, 7, 0);
            Due.is("deeds", x.count(6), 2);
        }
    }

    private static void lotsOfSpoons() {
        Due.says("Promise 38", "4 a SPOON of 1 more than it by 64, cut, modulo 9");
        for (int n = 0; n < 9; n++) {
            FlossRumours x = Due.front("d70 p005");
            Due.is("what all have then", x.lots(1, seedFor(SPOON, 9, n)), 5);
            Due.cloud(x, n + 1, 7);
            Due.is("deeds", x.count(6), 1);
            Due.is("turns", x.count(5), 0);
        }
        Due.says("Promise 38", "(60 at most)");
        for (int size = 59; size <= 60; size++) {
            FlossRumours x = Due.front("d70 p005");
            Due.spoons(x, size);
            int deeds = x.count(6);
            x.lots(1, seedFor(SPOON, 9, 8));
            Due.cloud(x, 60, 7);
            Due.is("a deed in any case", x.count(6), deeds + 1);
            Due.is("undone", x.undo(deeds), 1);
            Due.cloud(x, size, 7);
        }
    }

    private static void lotsOfWinds() {
        Due.says("Promise 38", "5 the WIND is it by 64, cut, modulo 3");
        for (int was = 0; was <= 2; was++) {
            for (int w = 0; w <= 2; w++) {
                FlossRumours x = Due.front("d70 p005");
                if (was != 1) x.wind(was);
                int deeds = x.count(6);
                Due.is("what all have then", x.lots(1, seedFor(WIND, 3, w)), 5);
                Due.is("the wind", x.count(3), w);
                Due.is("a deed in any case", x.count(6), deeds + 1);
                x.undo(deeds);
                Due.is("undone", x.count(3), was);
            }
        }
    }

    private static void lotsOfRain() {
        Due.says("Promise 38", "6 it RAINS, or no more");
        FlossRumours x = Due.front("d70 p005");
        int seed = seedFor(RAIN, 1, 0);
        Due.is("what all have then", x.lots(1, seed), 5);
        Due.is("it rains", x.count(4), 1);
        x.lots(1, seed);
        Due.is("no more", x.count(4), 0);
        x.lots(1, seed);
        Due.is("again", x.count(4), 1);
        x.undo(1);
        Due.is("undone", x.count(4), 1);
    }

    private static void lotsOfStanding() {
        Due.says("Promise 38", "7 one of PEOPLE it modulo how many there are stands at it by 64, cut, modulo 10 "
            + "(a DEED in any case)");
        for (int many = 1; many <= 6; many++) {
            for (int place = 0; place <= 9; place++) {
                FlossRumours x = Due.front("d70" + "p405".repeat(many));
                int seed = seedFor(STAND, 10, place);
                int who = (int) (firstLot(seed) % many);
                Due.is("what all have then", x.lots(1, seed), 5 * many);
                for (int i = 0; i < many; i++) Due.one(x, i, 1, i == who ? place : 4);
                Due.is("a deed in any case", x.count(6), 1);
            }
        }
    }

    /** The same DEEDS, each by its own call, as far as they change something. */
    private static void byHand(FlossRumours x, int n, int seed) {
        long lot = seed;
        for (int k = 0; k < n; k++) {
            lot = lot * 48271L % 2147483647L;
            switch ((int) (lot / 8 % 8)) {
                case SPOON: x.spoon(1 + (int) (lot / 64 % 9)); break;
                case WIND: x.wind((int) (lot / 64 % 3)); break;
                case RAIN: x.rain(1 - x.count(4)); break;
                case STAND: x.stand((int) (lot % x.count(0)), (int) (lot / 64 % 10)); break;
                default: x.turn(); break;
            }
        }
    }

    private static void manyLots() {
        Due.says("Promise 38", "n (1 .. 20) DEEDS truly by LOTS of a seed .. what all HAVE then");
        for (int seed : new int[] {1, 2, 3, 56, 1000, 48271, 123456789, 2147483645, 2147483646}) {
            for (int n : new int[] {1, 2, 19, 20}) {
                FlossRumours x = Due.front("d34 p305 b312 g400 w400 i500 l524");
                FlossRumours twin = Due.front("d34 p305 b312 g400 w400 i500 l524");
                Due.spoons(x, 40);
                Due.spoons(twin, 40);
                byHand(twin, n, seed);
                Due.is("lots(" + n + ", " + seed + ")", x.lots(n, seed), twin.count(9));
                for (int what = 1; what <= 5; what++) Due.is("count(" + what + ")", x.count(what), twin.count(what));
                for (int i = 0; i < 6; i++) {
                    for (int what = 1; what <= 2; what++) {
                        twin.one(i, what);
                        Due.one(x, i, what, twin.asked());
                    }
                }
                Due.is("deeds", x.count(6), 5 + n);
                Due.is("truly deeds", x.undo(5), n);
                Due.cloud(x, 40, 3);
            }
        }
    }

    /** As many DEEDS as told. */
    private static Supplier<FlossRumours> deeds(int n) {
        return () -> Edges.with(Edges.full(), x -> x.undo(n));
    }

    private static void lotsRefused() {
        Due.says("Promise 38", "BAD");
        for (int n : new int[] {0, -1, 21, LOW, HIGH}) {
            Edges.refused(Edges::people, "lots(" + n + ", 1)", y -> y.lots(n, 1), BAD);
        }
        for (int seed : new int[] {0, -1, LOW, HIGH}) {
            Edges.refused(Edges::people, "lots(1, " + seed + ")", y -> y.lots(1, seed), BAD);
        }
        Due.says("Promise 38", "STATE: no PEOPLE");
        Edges.refused(Edges::bare, "lots(1, 1)", y -> y.lots(1, 1), STATE);
        Edges.refused(Edges::bare, "lots(20, 2147483646)", y -> y.lots(20, 2147483646), STATE);
        Due.says("Promise 38", "FULL: with n more there would be more than 40 DEEDS");
        for (int n : new int[] {1, 2, 19, 20}) {
            FlossRumours x = deeds(40 - n).get();
            Due.is("just as many, lots(" + n + ", 9)", x.lots(n, 9) >= 0 ? 1 : 0, 1);
            Due.is("deeds", x.count(6), 40);
            Edges.refused(deeds(41 - n), "one too many, lots(" + n + ", 9)", y -> y.lots(n, 9), FULL);
        }
        Edges.refused(Edges::full, "lots(20, 9)", y -> y.lots(20, 9), FULL);
        Due.says("Promise 38", "(FULL last.)");
        Edges.refused(Edges::full, "lots(0, 1)", y -> y.lots(0, 1), BAD);
        Edges.refused(Edges::full, "lots(21, 1)", y -> y.lots(21, 1), BAD);
        Edges.refused(Edges::full, "lots(1, 0)", y -> y.lots(1, 0), BAD);
    }

    private static void askedBefore() {
        Due.says("Promise 39", "0 before");
        Due.is("asked()", new FlossRumours().asked(), 0);
        FlossRumours x = Due.front("d00 p005");
        x.spoon(9);
        x.at(0, 0);
        x.one(1, 0);
        x.away(0, 30, 1);
        x.sure(4);
        Due.is("refused, or NONE", x.asked(), 0);
    }

    private static void askedByEach() {
        Due.says("Promise 39", "the latest lay(), at(), mean(), one(), cloud(), away(), best(), next(), sets(), sure(), "
            + "duel() .. told");
        FlossRumours x = Due.front("d60 p605 g603 w600 p600");
        Due.spoons(x, 10);
        Due.row(x, 0, 50, 60);
        Due.asked(x, "lay", x.lay(0, 0, 51), 1, 50);
        Due.asked(x, "at", x.at(0, 0), 1, 51);
        Due.asked(x, "mean", x.mean(0), 1, 55);
        Due.asked(x, "one", x.one(1, 2), 1, 3);
        Due.asked(x, "cloud", x.cloud(0), 10, 6);
        Due.asked(x, "away", x.away(2, 4, 1), 1, 2);
        Due.asked(x, "best", x.best(1, 1), 6, 11);
        Due.row(x, 1, 7);
        // sizes 2 .. 12 leave nothing for the wasp, the others tell less: 29, 20, 17
        Due.asked(x, "next", x.next(0, 1), 2, 11);
        Due.asked(x, "sets", x.sets(3), 1, 2);
        Due.asked(x, "sure", x.sure(8), 3, 0);
        Due.asked(x, "duel", x.duel(1, 2, 0), 1, 11);
        Due.asked(x, "sets, none", x.sets(99), 1, NONE);
    }

    private static void notAsked() {
        Due.says("Promise 39", "What the latest .. told");
        FlossRumours x = Edges.people();
        x.row(0, 1);
        x.text(1, 5);
        x.put(1, 0, 9);
        x.fault(1);
        x.tear(0);
        x.row(0, 1);
        x.copy(5, 0, 0, 0, 1);
        x.row(0, 1);
        x.mark(1, 1);
        x.gathers(0, 9);
        x.share(0, 9);
        x.first(0);
        x.least(1, 9);
        x.sizes(0, 0);
        x.winds(0, 0);
        x.kinds(0, 0);
        x.odds(0, 5);
        x.mid(5);
        x.turn();
        x.spoon(1);
        x.wind(1);
        x.rain(1);
        x.stand(0, 0);
        x.keep(0);
        x.lots(3, 3);
        x.undo(3);
        x.on(0);
        x.count(1);
        x.finding();
        x.findings(1);
        x.upper();
        x.lower();
        x.digest();
        x.front(0);
        Due.is("asked(), none of these calls told anything by it", x.asked(), 777);
        Due.is("asked() again", x.asked(), 777);
    }

    private static void notAskedByNone() {
        Due.says("Promise 39", "that was not refused (nor NONE)");
        FlossRumours x = Edges.people();
        Due.row(x, 0, 30);
        x.at(5, 0);
        Due.is("away: NONE", x.away(0, 30, 1), NONE);
        Due.is("asked()", x.asked(), 777);
        Due.is("next: NONE", x.next(1, 0), NONE);
        Due.is("asked()", x.asked(), 777);
        int[] refused = {
            x.lay(0, 1, 5), x.lay(6, 0, 5), x.lay(4, 0, 5), x.at(0, 1), x.at(-1, 0), x.at(4, 0), x.mean(4), x.mean(6), x.one(6, 0),
            x.one(0, 5), x.cloud(41), x.away(0, 31, 1), x.away(0, 0, 21), x.best(0, 21), x.best(6, 1), x.next(6, 0), x.next(0, 5),
            x.next(0, 4), x.sets(181), x.sure(181), x.sure(180), x.duel(0, 0, 0), x.duel(0, 1, 3)};
        for (int k = 0; k < refused.length; k++) {
            boolean is = refused[k] == BAD || refused[k] == FlossRumours.FINDING;
            Due.is("refused call " + k, is ? 1 : 0, 1);
        }
        Due.is("asked()", x.asked(), 777);
    }

    private static void upperLower() {
        Due.says("Promise 40", "0 before");
        Due.is("upper()", new FlossRumours().upper(), 0);
        Due.is("upper(), people", Due.front("d00 p005").upper(), 0);
        Due.says("Promise 41", "1 before");
        Due.is("lower()", new FlossRumours().lower(), 1);
        Due.is("lower(), people", Due.front("d00 p005").lower(), 1);
        Due.says("Promise 40", "The upper number that was told last");
        FlossRumours x = Edges.people();
        Due.is("upper()", x.upper(), 7);
        x.sets(181);
        x.odds(6, 5);
        x.odds(0, 13);
        x.mid(13);
        x.sure(0);
        x.mean(5);
        x.front(0);
        Due.is("upper()", x.upper(), 7);
        Due.says("Promise 41", "Its lower number");
        Due.is("lower()", x.lower(), 12);
        x.sets(5);
        Due.is("lower() of sets", x.lower(), 1);
        x.spoon(9);
        // 13, less 2 by 11 of 12 for each of two
        Due.parts(x, "mid", x.mid(1), 28, 3);
    }

    private static void countIs(FlossRumours x, int... want) {
        for (int what = 0; what < want.length; what++) Due.is("count(" + what + ")", x.count(what), want[what]);
    }

    private static void count() {
        Due.says("Promise 42", "0 PEOPLE, 1 the CLOUD, 2 its PLACE .. 3 the WIND .. 4 RAIN (1, 0), "
            + "5 the number of the next TURN, 6 DEEDS, 7 the PLACE of the DRUM, 8 the GROWTH, 9 what all HAVE, 10 BEARDS (BISHOPS, too), 11 WASPS (GIRLS, too), 12 ROWS, "
            + "13 TEXTS that are there, 14 kept FRONTS");
        FlossRumours x = Due.front("d99 b030 i030 b030 i030 b030 i030");
        countIs(x, 6, 0, 9, 1, 0, 0, 0, 9, 9, 180, 6, 0, 0, 1, 0);
        x.wind(0);
        x.rain(1);
        for (int k = 0; k < 3; k++) x.keep(k);
        for (int r = 0; r < 6; r++) x.row(r, 0);
        for (int t = 0; t < 4; t++) x.text(t, 0);
        for (int k = 2; k < 40; k++) x.turn();
        countIs(x, 6, 0, 9, 0, 1, 38, 40, 9, 9, 180, 6, 0, 6, 4, 3);
        x = Due.front("d00 w000 l000 w000 l000 w000 p000");
        countIs(x, 6, 0, 0, 1, 0, 0, 0, 0, 0, 0, 0, 5, 0, 1, 0);
        Due.spoons(x, 60);
        Due.is("the cloud", x.count(1), 60);
        Due.is("neither a beard nor a wasp", Due.front("d00 p000 g000").count(10), 0);
        Due.is("neither a beard nor a wasp", Due.front("d00 p000 g000").count(11), 0);
        Due.says("Promise 42", "BAD");
        for (int what : new int[] {-1, 15, LOW, HIGH}) {
            Edges.refused(Edges::people, "count(" + what + ")", y -> y.count(what), BAD);
            Edges.refused(Edges::bare, "count(" + what + "), no people", y -> y.count(what), BAD);
        }
    }

    private static void countWithout() {
        Due.says("Promise 42", "2 its PLACE (0 without PEOPLE), 3 the WIND (1 without)");
        countIs(new FlossRumours(), 0, 0, 0, 1, 0, 0, 0, 0, 0, 0, 0, 0, 0, 0, 0);
        FlossRumours x = new FlossRumours();
        Due.write(x, 0, "d74");
        Due.is("front of nobody", x.front(0), STATE);
        countIs(x, 0, 0, 0, 1, 0, 0, 0, 0, 0, 0, 0, 0, 0, 1, 0);
        x.wind(2);
        Due.is("the wind, no people", x.count(3), 1);
    }

    private static void finding() {
        Due.says("Promise 43", "The latest FINDING (0 before any)");
        FlossRumours x = Due.front("d00 p005");
        Due.is("finding()", new FlossRumours().finding(), 0);
        Due.is("turn(), no people", new FlossRumours().turn(), STATE);
        x.wind(3);
        x.wind(1);
        x.first(0);
        Due.is("finding(): BAD, STATE, NONE are none", x.finding(), 0);
        x.tear(0);
        Due.is("NOTHING", x.finding(), 1);
        x.row(0, 0);
        Due.is("still", x.finding(), 1);
        x.at(0, 0);
        Due.is("BEYOND", x.finding(), 2);
        x.mark(0, 1);
        Due.is("UNLIKE", x.finding(), 3);
        x.mean(0);
        Due.is("NOUGHT", x.finding(), 4);
        x.row(0, -1);
        Due.is("SIZE", x.finding(), 5);
        x.tear(5);
        Due.is("NOTHING again", x.finding(), 1);
        x.front(0);
        Due.is("a front anew leaves it", x.finding(), 1);
    }

    private static void findings() {
        Due.says("Promise 44", "How often a FINDING (1 .. 5) was answered");
        FlossRumours x = Due.front("d00 p005");
        x.row(0, 0);
        for (int f = 1; f <= 5; f++) Due.is("findings(" + f + ")", x.findings(f), 0);
        for (int k = 1; k <= 5; k++) {
            for (int times = 0; times < 10 * k; times++) {
                switch (k) {
                    case 1: x.tear(1); break;
                    case 2: x.at(0, 0); break;
                    case 3: x.mark(0, 1); break;
                    case 4: x.mean(0); break;
                    default: x.row(0, -1); break;
                }
            }
            for (int f = 1; f <= 5; f++) Due.is("findings(" + f + ")", x.findings(f), f <= k ? 10 * f : 0);
        }
        Due.is("a front anew", x.front(0), 1);
        Due.is("leaves them", x.findings(5), 50);
        Due.says("Promise 44", "BAD");
        for (int f : new int[] {0, -1, 6, LOW, HIGH}) {
            Edges.refused(Edges::people, "findings(" + f + ")", y -> y.findings(f), BAD);
            Edges.refused(Edges::bare, "findings(" + f + "), no people", y -> y.findings(f), BAD);
        }
    }

    private static long digestOf(long... values) {
        long h = 17;
        for (long v : values) h = 31 * h + v;
        return h;
    }

    private static void digest() {
        Due.says("Promise 45", "h = 17; then h = 31 h + v for each v: count() 0 to 14; of each of PEOPLE one() 0 to 4");
        FlossRumours x = new FlossRumours();
        Due.is("without people", x.digest(), digestOf(
            0, 0, 0, 1, 0, 0, 0, 0, 0, 0, 0, 0, 0, 0, 0, -1, -1, -1, -1, -1, -1, -1, -1, -1, -1, -1, -1, -1));
        Due.write(x, 0, "d59l030");
        x.front(0);
        x.text(0, 0);
        Due.spoons(x, 20);
        x.wind(0);
        x.rain(1);
        x.turn();
        Due.is("one of people", x.digest(), digestOf(
            1, 10, 4, 0, 1, 1, 6, 5, 9, 15, 0, 1, 0, 1, 0, 5, 0, 15, 5, 4,
            -1, -1, -1, -1, -1, -1, -1, -1, -1, 0, -1, -1, -1));
        Due.says("Promise 45", "of each kept FRONT how many DEEDS (-1: missing)");
        x.undo(0);
        x.keep(2);
        x.turn();
        x.keep(0);
        Due.is("kept in 0 and 2", x.digest(), digestOf(
            1, 0, 5, 1, 0, 1, 1, 5, 9, 30, 0, 1, 0, 1, 2, 5, 0, 30, 0, 5,
            1, -1, 0, -1, -1, -1, -1, -1, -1, 0, -1, -1, -1));
        Due.says("Promise 45", "of each ROW its size (-1: missing) and places, of each TEXT likewise");
        x = new FlossRumours();
        Due.row(x, 0, LOW, HIGH);
        x.row(3, 0);
        Due.row(x, 5, -1);
        x.text(3, 3);
        x.put(3, 0, 128);
        x.put(3, 2, 255);
        x.text(1, 0);
        Due.is("rows and texts", x.digest(), digestOf(
            0, 0, 0, 1, 0, 0, 0, 0, 0, 0, 0, 0, 3, 2, 0, -1, -1, -1,
            2, LOW, HIGH, -1, -1, 0, -1, 1, -1, -1, 0, -1, 3, -128, 32, -1));
        x.tear(0);
        x.row(5, 0);
        x.text(3, 1);
        Due.is("fewer", x.digest(), digestOf(
            0, 0, 0, 1, 0, 0, 0, 0, 0, 0, 0, 0, 2, 2, 0, -1, -1, -1, -1, -1, -1, 0, -1, 0, -1, 0, -1, 1, 32));
        Due.is("it changes nothing", x.digest(), x.digest());
        digestOfFull();
    }

    private static void digestOfFull() {
        FlossRumours x = new FlossRumours();
        long h = digestOf(0, 0, 0, 1, 0, 0, 0, 0, 0, 0, 0, 0, 6, 4, 0, -1, -1, -1);
        for (int r = 0; r < 6; r++) {
            x.row(r, 40);
            h = 31 * h + 40;
            for (int i = 0; i < 40; i++) {
                x.lay(r, i, HIGH - i);
                h = 31 * h + HIGH - i;
            }
        }
        for (int t = 0; t < 4; t++) {
            x.text(t, 60);
            h = 31 * h + 60;
            for (int i = 0; i < 60; i++) h = 31 * h + 32;
        }
        Due.is("all rows and texts are full", x.digest(), h);
    }
}
