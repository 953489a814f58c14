import java.util.Arrays;

/** Rumours as candyfloss along a front that goes round; ../shared/DOC.md tells what each call promises. */
public final class FlossRumours {
    public static final int BAD = -1, FULL = -2, FINDING = -3, STATE = -4, SPENT = -6, NONE = -9;

    private static final int NOTHING = 1, BEYOND = 2, UNLIKE = 3, NOUGHT = 4, SIZE = 5;
    private static final int ROWS = 6, ROW_MOST = 40;
    private static final int TEXTS = 4, TEXT_MOST = 60, BLANK = 32, DRUM_LETTER = 100;
    private static final int PEOPLE_MOST = 6, KINDS = 6, PLACES = 10, HAS_MOST = 30, CLOUD_MOST = 60;
    private static final int WOUND = 20, SPOON_MOST = 9, LEAST_MOST = 30;
    private static final int DEEDS_MOST = 40, KEPT = 3, MISSING = -1;
    private static final int TURN = 0, SPOON = 1, WIND = 2, RAIN = 3, STAND = 4, DETAILS = 100;
    private static final int AHEAD_MOST = 40, PLAN_MOST = 20, HAD_MOST = 10, SIZES_MOST = 30;
    private static final int SETS_MOST = HAS_MOST * PEOPLE_MOST, DUEL_MOST = 2, DUEL_TURNS = 3;
    private static final int CHANCES = 12, LOTS_MOST = 20;
    private static final long LOT_TIMES = 48271L, LOT_MODULUS = 2147483647L;
    private static final int COUNTS = 15, ONES = 5, FINDINGS = 5;
    private static final int[] LETTERS = {112, 98, 103, 119, 105, 108};

    /** What one of a KIND does with a CLOUD and in RAIN; it holds nothing, so one object serves all of that KIND. */
    private static class Person {
        int partOf(int cloud) {
            return Math.min(2, cloud);
        }

        int leftByRain(int has) {
            return has / 2;
        }

        int breath() {
            return 0;
        }
    }

    private static class Beard extends Person {
        int leftByRain(int has) {
            return has;
        }
    }

    private static final class Bag extends Person {
        int partOf(int cloud) {
            return Math.min(9, cloud);
        }
    }

    private static class Wasp extends Person {
        int partOf(int cloud) {
            return cloud / 2;
        }
    }

    private static final class Bishop extends Beard {
        int breath() {
            return 3;
        }
    }

    private static final class Girl extends Wasp {
        int partOf(int cloud) {
            return cloud >= WOUND ? cloud : super.partOf(cloud);
        }
    }

    /** KINDS by their numbers. */
    private static final class Kinds {
        private final Person person = new Person();
        private final Beard beard = new Beard();
        private final Bag bag = new Bag();
        private final Wasp wasp = new Wasp();
        private final Bishop bishop = new Bishop();
        private final Girl girl = new Girl();

        Person ofNumber(int kind) {
            switch (kind) {
                case 1: return beard;
                case 2: return bag;
                case 3: return wasp;
                case 4: return bishop;
                case 5: return girl;
                default: return person;
            }
        }
    }

    /** A FRONT as it is at one time. */
    private static final class Front {
        final Kinds kinds;
        final int[] kind = new int[PEOPLE_MOST];
        final int[] place = new int[PEOPLE_MOST];
        final int[] has = new int[PEOPLE_MOST];
        int drum = 0;
        int growth = 0;
        int people = 0;
        int cloud = 0;
        int where = 0;
        int wind = 1;
        int rain = 0;
        int turns = 0;

        Front(Kinds kinds) {
            this.kinds = kinds;
        }

        void become(Front other) {
            for (int i = 0; i < PEOPLE_MOST; i++) {
                kind[i] = other.kind[i];
                place[i] = other.place[i];
                has[i] = other.has[i];
            }
            drum = other.drum;
            growth = other.growth;
            people = other.people;
            cloud = other.cloud;
            where = other.where;
            wind = other.wind;
            rain = other.rain;
            turns = other.turns;
        }

        void begin(int drumPlace, int cloudGrowth) {
            drum = drumPlace;
            growth = cloudGrowth;
            people = 0;
            cloud = 0;
            where = drumPlace;
            wind = 1;
            rain = 0;
            turns = 0;
        }

        void join(int itsKind, int itsPlace, int itHas) {
            if (people >= PEOPLE_MOST) return;
            kind[people] = itsKind;
            place[people] = itsPlace;
            has[people] = itHas;
            people++;
        }

        boolean isOne(int i) {
            return i >= 0 && i < people;
        }

        Person personOf(int i) {
            return kinds.ofNumber(kind[i]);
        }

        /** How much one would GATHER of a CLOUD of a size. */
        int partFor(int i, int size) {
            return personOf(i).partOf(size);
        }

        int farFromCloud(int i) {
            int way = Math.abs(place[i] - where);
            return Math.min(way, PLACES - way);
        }

        int inAll() {
            int sum = 0;
            for (int i = 0; i < people; i++) sum += has[i];
            return sum;
        }

        int inSet(int set) {
            int sum = 0;
            for (int i = 0; i < people; i++) {
                if ((set >> i & 1) == 1) sum += has[i];
            }
            return sum;
        }

        void putIn(int n) {
            cloud = Math.min(CLOUD_MOST, cloud + n);
        }

        void beOfSize(int size) {
            cloud = size;
            if (cloud == 0) where = drum;
        }

        /** One TURN in which a set of PEOPLE is away: who GATHERS something. */
        int pass(int gone) {
            drift();
            int who = 0;
            for (int i = 0; i < people; i++) {
                if ((gone >> i & 1) == 0 && gatherFor(i)) who |= 1 << i;
            }
            if (rain == 1) loseInRain();
            // only now: a BISHOP's breath keeps a cloud that was all gathered where it is
            if (cloud == 0) where = drum;
            turns++;
            return who;
        }

        void passAll(int n) {
            for (int k = 0; k < n; k++) pass(0);
        }

        private void drift() {
            if (cloud == 0) return;
            cloud = rain == 1 ? cloud / 2 : Math.min(CLOUD_MOST, cloud + growth);
            where = Math.floorMod(where + wind - 1, PLACES);
        }

        private boolean gatherFor(int i) {
            if (place[i] != where) return false;
            Person person = kinds.ofNumber(kind[i]);
            int part = person.partOf(cloud);
            if (part <= 0) return false;
            has[i] = Math.min(HAS_MOST, has[i] + part);
            cloud = Math.min(CLOUD_MOST, cloud - part + person.breath());
            return true;
        }

        private void loseInRain() {
            for (int i = 0; i < people; i++) has[i] = personOf(i).leftByRain(has[i]);
        }

        /** Does a DEED: of a TURN who GATHERS something, else 0. */
        int undergo(int deed) {
            int detail = deed % DETAILS;
            switch (deed / DETAILS) {
                case TURN: return pass(0);
                case SPOON: putIn(detail); break;
                case WIND: wind = detail; break;
                case RAIN: rain = detail; break;
                default: moveTo(detail / PLACES, detail % PLACES); break;
            }
            return 0;
        }

        private void moveTo(int i, int itsPlace) {
            if (isOne(i)) place[i] = itsPlace;
        }
    }

    /** DEEDS in their order, each one number; what a FRONT is comes from its beginning by doing them again. */
    private static final class Deeds {
        final int[] deed = new int[DEEDS_MOST];
        int size;

        Deeds(int size) {
            this.size = size;
        }

        boolean isFull() {
            return size >= DEEDS_MOST;
        }

        void add(int code) {
            if (isFull()) return;
            deed[size] = code;
            size++;
        }

        void become(Deeds other) {
            System.arraycopy(other.deed, 0, deed, 0, DEEDS_MOST);
            size = other.size;
        }
    }

    private final int[][] rows = new int[ROWS][ROW_MOST];
    private final int[] rowSize = new int[ROWS];
    private final byte[][] texts = new byte[TEXTS][TEXT_MOST];
    private final int[] textSize = new int[TEXTS];
    private final Front start;
    private final Front now;
    private final Front aside;
    private final Deeds deeds = new Deeds(0);
    private final Deeds[] kept = new Deeds[KEPT];
    private final int[][] tally = new int[PEOPLE_MOST][HAS_MOST + 1];
    private final int[] foundOften = new int[FINDINGS + 1];
    private int found = 0;
    private int told = 0;
    private long above = 0;
    private long below = 1;

    public FlossRumours() {
        Kinds kinds = new Kinds();
        start = new Front(kinds);
        now = new Front(kinds);
        aside = new Front(kinds);
        for (int k = 0; k < KEPT; k++) kept[k] = new Deeds(MISSING);
        Arrays.fill(rowSize, MISSING);
        Arrays.fill(textSize, MISSING);
    }

    // ---- 1 rows, texts, fronts

    public int row(int r, int n) {
        if (!isRow(r) || n > ROW_MOST) return BAD;
        if (n < 0) return answerFinding(SIZE);
        Arrays.fill(rows[r], 0);
        rowSize[r] = n;
        return n;
    }

    public int lay(int r, int i, int v) {
        int refused = refusedPlace(r, i);
        if (refused != 0) return refused;
        told = rows[r][i];
        rows[r][i] = v;
        return 1;
    }

    public int at(int r, int i) {
        int refused = refusedPlace(r, i);
        if (refused != 0) return refused;
        told = rows[r][i];
        return 1;
    }

    public int tear(int r) {
        int refused = refusedRow(r);
        if (refused != 0) return refused;
        rowSize[r] = MISSING;
        return 1;
    }

    public int copy(int r, int i, int to, int j, int n) {
        if (!isRow(r) || !isRow(to)) return BAD;
        if (n < 0) return answerFinding(SIZE);
        if (rowSize[r] == MISSING || rowSize[to] == MISSING) return answerFinding(NOTHING);
        if (!hasPlaces(r, i, n) || !hasPlaces(to, j, n)) return answerFinding(BEYOND);
        System.arraycopy(rows[r], i, rows[to], j, n);
        return 1;
    }

    public int mean(int r) {
        int refused = refusedRow(r);
        if (refused != 0) return refused;
        int size = rowSize[r];
        if (size == 0) return answerFinding(NOUGHT);
        long sum = 0;
        for (int k = 0; k < size; k++) sum += rows[r][k];
        told = (int) (sum / size);
        return 1;
    }

    public int text(int t, int n) {
        if (!isText(t) || n > TEXT_MOST) return BAD;
        if (n < 0) return answerFinding(SIZE);
        Arrays.fill(texts[t], (byte) BLANK);
        textSize[t] = n;
        return n;
    }

    public int put(int t, int i, int v) {
        int refused = refusedText(t);
        if (refused != 0) return refused;
        if (i < 0 || i >= textSize[t]) return answerFinding(BEYOND);
        int was = texts[t][i];
        texts[t][i] = (byte) v;
        return was + 1000;
    }

    public int fault(int t) {
        int refused = refusedText(t);
        if (refused != 0) return refused;
        return readFront(t);
    }

    public int front(int t) {
        int refused = refusedText(t);
        if (refused != 0) return refused;
        if (readFront(t) != NONE) return STATE;
        start.become(aside);
        now.become(aside);
        deeds.size = 0;
        for (int k = 0; k < KEPT; k++) kept[k].size = MISSING;
        return now.people;
    }

    public int one(int i, int what) {
        if (!now.isOne(i) || what < 0 || what >= ONES) return BAD;
        told = valueOfOne(i, what);
        return 1;
    }

    public int mark(int i, int kind) {
        if (!now.isOne(i) || kind <= 0 || kind >= KINDS) return BAD;
        Person person = now.personOf(i);
        switch (kind) {
            case 1: return person instanceof Beard ? now.inAll() - now.has[i] : answerFinding(UNLIKE);
            case 2: return person instanceof Bag ? HAS_MOST - now.has[i] : answerFinding(UNLIKE);
            case 3: return person instanceof Wasp ? leastCloudAlike(person) : answerFinding(UNLIKE);
            case 4: return person instanceof Bishop ? CLOUD_MOST - now.cloud : answerFinding(UNLIKE);
            default: return person instanceof Girl ? Math.max(0, WOUND - now.cloud) : answerFinding(UNLIKE);
        }
    }

    // ---- 2 deeds

    public int turn() {
        if (now.people == 0) return STATE;
        if (deeds.isFull()) return FULL;
        return doDeed(TURN, 0);
    }

    public int spoon(int n) {
        if (n < 1 || n > SPOON_MOST) return BAD;
        if (now.people == 0 || now.cloud >= CLOUD_MOST) return STATE;
        if (deeds.isFull()) return FULL;
        doDeed(SPOON, n);
        return now.cloud;
    }

    public int wind(int w) {
        if (w < 0 || w > 2) return BAD;
        if (now.people == 0 || now.wind == w) return STATE;
        if (deeds.isFull()) return FULL;
        int was = now.wind;
        doDeed(WIND, w);
        return was;
    }

    public int rain(int is) {
        if (is < 0 || is > 1) return BAD;
        if (now.people == 0 || now.rain == is) return STATE;
        if (deeds.isFull()) return FULL;
        doDeed(RAIN, is);
        return now.rain;
    }

    public int stand(int i, int place) {
        if (!now.isOne(i) || place < 0 || place >= PLACES) return BAD;
        int stood = now.place[i];
        if (stood == place) return STATE;
        if (deeds.isFull()) return FULL;
        doDeed(STAND, i * PLACES + place);
        return stood;
    }

    public int undo(int n) {
        if (n < 0 || n > deeds.size) return BAD;
        int undone = deeds.size - n;
        deeds.size = n;
        doAllAgain();
        return undone;
    }

    public int keep(int k) {
        if (!isKeepingPlace(k)) return BAD;
        if (now.people == 0) return STATE;
        kept[k].become(deeds);
        return deeds.size;
    }

    public int on(int k) {
        if (!isKeepingPlace(k)) return BAD;
        if (kept[k].size == MISSING) return answerFinding(NOTHING);
        deeds.become(kept[k]);
        doAllAgain();
        return deeds.size;
    }

    // ---- 3 what comes (aside)

    public int gathers(int i, int cloud) {
        if (!now.isOne(i) || cloud < 0 || cloud > CLOUD_MOST) return BAD;
        return now.partFor(i, cloud);
    }

    public int cloud(int n) {
        if (n < 0 || n > AHEAD_MOST) return BAD;
        if (now.people == 0) return STATE;
        aside.become(now);
        aside.passAll(n);
        told = aside.where;
        return aside.cloud;
    }

    public int share(int i, int n) {
        if (!now.isOne(i) || n < 0 || n > AHEAD_MOST) return BAD;
        aside.become(now);
        aside.passAll(n);
        return aside.has[i];
    }

    public int first(int i) {
        if (!now.isOne(i)) return BAD;
        aside.become(now);
        for (int n = 1; n <= AHEAD_MOST; n++) {
            if ((aside.pass(0) >> i & 1) == 1) return n;
        }
        return NONE;
    }

    // ---- 4 who is to go, where to stand (aside, now)

    public int away(int i, int v, int n) {
        if (!now.isOne(i) || v < 0 || v > HAS_MOST || !isPlan(n)) return BAD;
        int fewest = PEOPLE_MOST;
        int who = 0;
        for (int set = 0; set < 1 << now.people; set++) {
            int size = Integer.bitCount(set);
            if ((set >> i & 1) == 0 && size < fewest && shareWithout(set, i, n) >= v) {
                fewest = size;
                who = set;
            }
        }
        if (fewest == PEOPLE_MOST) return NONE;
        told = who;
        return fewest;
    }

    public int best(int i, int n) {
        if (!now.isOne(i) || !isPlan(n)) return BAD;
        int most = -1;
        int where = 0;
        for (int p = 0; p < PLACES; p++) {
            aside.become(now);
            aside.place[i] = p;
            aside.passAll(n);
            if (aside.has[i] > most) {
                most = aside.has[i];
                where = p;
            }
        }
        told = most;
        return where;
    }

    public int least(int set, int n) {
        if (set < 0 || set >= 1 << now.people || !isPlan(n)) return BAD;
        if (now.people == 0) return STATE;
        for (int spoon = 0; spoon <= LEAST_MOST; spoon++) {
            if ((gatherersBy(spoon, n) & set) == set) return spoon;
        }
        return NONE;
    }

    // ---- 5 by what one had

    public int sizes(int i, int r) {
        int refused = refusedHad(i, r);
        if (refused != 0) return refused;
        return fittingSizes(i, r);
    }

    public int winds(int i, int r) {
        int refused = refusedHad(i, r);
        if (refused != 0) return refused;
        int set = 0;
        for (int w = 0; w <= 2; w++) {
            aside.become(now);
            aside.wind = w;
            if (asideFits(i, r)) set |= 1 << w;
        }
        return set;
    }

    public int kinds(int i, int r) {
        int refused = refusedHad(i, r);
        if (refused != 0) return refused;
        int set = 0;
        for (int kind = 0; kind < KINDS; kind++) {
            aside.become(now);
            aside.kind[i] = kind;
            if (asideFits(i, r)) set |= 1 << kind;
        }
        return set;
    }

    public int next(int i, int r) {
        int refused = refusedHad(i, r);
        if (refused != 0) return refused;
        int set = fittingSizes(i, r);
        if (set == 0) return NONE;
        tallyShares(set, rowSize[r]);
        int whom = 0;
        int leastPart = SIZES_MOST + 2;
        for (int q = 0; q < now.people; q++) {
            int part = greatestOf(tally[q]);
            if (part < leastPart) {
                leastPart = part;
                whom = q;
            }
        }
        told = leastPart;
        return whom;
    }

    // ---- 6 whose shares

    public int sets(int v) {
        if (v < 0 || v > SETS_MOST) return BAD;
        if (now.people == 0) return STATE;
        int many = 0;
        int firstSet = NONE;
        for (int set = 0; set < 1 << now.people; set++) {
            if (now.inSet(set) == v) {
                many++;
                if (firstSet == NONE) firstSet = set;
            }
        }
        told = firstSet;
        tellParts(many, 1);
        return 1;
    }

    public int sure(int v) {
        if (v < 0 || v > SETS_MOST) return BAD;
        if (now.people == 0) return STATE;
        int everyone = (1 << now.people) - 1;
        int many = 0;
        int inEach = everyone;
        int inSome = 0;
        for (int set = 0; set <= everyone; set++) {
            if (now.inSet(set) == v) {
                many++;
                inEach &= set;
                inSome |= set;
            }
        }
        if (many == 0) return answerFinding(NOUGHT);
        told = everyone & ~inSome;
        return inEach;
    }

    // ---- 7 by turns

    public int duel(int i, int j, int n) {
        if (!now.isOne(i) || !now.isOne(j) || i == j || n < 0 || n > DUEL_MOST) return BAD;
        told = firstGoes(i, j, now.place[i], now.place[j], n);
        return 1;
    }

    // ---- 8 chances, lots

    public int odds(int i, int p) {
        if (!now.isOne(i) || p < 0 || p > CHANCES) return BAD;
        long sum = 0;
        for (int gone = 0; gone < 1 << now.people; gone++) {
            aside.become(now);
            if ((aside.pass(gone) >> i & 1) == 1) sum += weightOf(gone, p);
        }
        tellParts(sum, power(CHANCES, now.people));
        return 1;
    }

    public int mid(int p) {
        if (p < 0 || p > CHANCES) return BAD;
        if (now.people == 0) return STATE;
        long sum = 0;
        for (int gone = 0; gone < 1 << now.people; gone++) {
            aside.become(now);
            aside.pass(gone);
            sum += aside.cloud * weightOf(gone, p);
        }
        tellParts(sum, power(CHANCES, now.people));
        return 1;
    }

    public int lots(int n, int seed) {
        if (n < 1 || n > LOTS_MOST || seed < 1 || seed >= LOT_MODULUS) return BAD;
        if (now.people == 0) return STATE;
        if (deeds.size + n > DEEDS_MOST) return FULL;
        long lot = seed;
        for (int k = 0; k < n; k++) {
            lot = lot * LOT_TIMES % LOT_MODULUS;
            doLot((int) lot);
        }
        return now.inAll();
    }

    // ---- 9 what is told

    public int asked() {
        return told;
    }

    public long upper() {
        return above;
    }

    public long lower() {
        return below;
    }

    public int count(int what) {
        switch (what) {
            case 0: return now.people;
            case 1: return now.cloud;
            case 2: return now.where;
            case 3: return now.wind;
            case 4: return now.rain;
            case 5: return now.turns;
            case 6: return deeds.size;
            case 7: return now.drum;
            case 8: return now.growth;
            case 9: return now.inAll();
            case 10: return beards();
            case 11: return wasps();
            case 12: return howManyThere(rowSize);
            case 13: return howManyThere(textSize);
            case 14: return howManyKept();
            default: return BAD;
        }
    }

    public int finding() {
        return found;
    }

    public int findings(int f) {
        if (f < 1 || f > FINDINGS) return BAD;
        return foundOften[f];
    }

    public long digest() {
        long h = 17;
        for (int what = 0; what < COUNTS; what++) h = 31 * h + count(what);
        for (int i = 0; i < now.people; i++) {
            for (int what = 0; what < ONES; what++) h = 31 * h + valueOfOne(i, what);
        }
        for (int k = 0; k < KEPT; k++) h = 31 * h + kept[k].size;
        for (int r = 0; r < ROWS; r++) {
            h = 31 * h + rowSize[r];
            for (int k = 0; k < rowSize[r]; k++) h = 31 * h + rows[r][k];
        }
        for (int t = 0; t < TEXTS; t++) {
            h = 31 * h + textSize[t];
            for (int k = 0; k < textSize[t]; k++) h = 31 * h + texts[t][k];
        }
        return h;
    }

    // what is refused

    private int answerFinding(int f) {
        found = f;
        foundOften[f]++;
        return FINDING;
    }

    private static boolean isRow(int r) {
        return r >= 0 && r < ROWS;
    }

    private static boolean isText(int t) {
        return t >= 0 && t < TEXTS;
    }

    private static boolean isKeepingPlace(int k) {
        return k >= 0 && k < KEPT;
    }

    private static boolean isPlan(int n) {
        return n >= 1 && n <= PLAN_MOST;
    }

    private boolean hasPlaces(int r, int i, int n) {
        return i >= 0 && n <= rowSize[r] && i <= rowSize[r] - n;
    }

    private int refusedRow(int r) {
        if (!isRow(r)) return BAD;
        return rowSize[r] == MISSING ? answerFinding(NOTHING) : 0;
    }

    private int refusedPlace(int r, int i) {
        int refused = refusedRow(r);
        if (refused != 0) return refused;
        return hasPlaces(r, i, 1) ? 0 : answerFinding(BEYOND);
    }

    private int refusedText(int t) {
        if (!isText(t)) return BAD;
        return textSize[t] == MISSING ? answerFinding(NOTHING) : 0;
    }

    private int refusedHad(int i, int r) {
        if (!now.isOne(i)) return BAD;
        int refused = refusedRow(r);
        if (refused != 0) return refused;
        if (rowSize[r] < 1 || rowSize[r] > HAD_MOST) return answerFinding(SIZE);
        for (int k = 0; k < rowSize[r]; k++) {
            if (rows[r][k] < 0 || rows[r][k] > HAS_MOST) return answerFinding(UNLIKE);
        }
        return 0;
    }

    // the small language

    /** Reads a TEXT into the FRONT aside: NONE, or the FAULT. */
    private int readFront(int t) {
        byte[] text = texts[t];
        int size = textSize[t];
        int at = pastBlanks(text, size, 0);
        if (at >= size || text[at] != DRUM_LETTER) return at;
        int stop = pastFigures(text, size, at + 1, 2);
        if (stop < at + 3) return stop;
        aside.begin(figure(text[at + 1]), figure(text[at + 2]));
        at = pastBlanks(text, size, at + 3);
        // one more than there may be: a seventh one is a FAULT that readOne tells
        for (int k = 0; k <= PEOPLE_MOST && at < size; k++) {
            int fault = readOne(text, size, at);
            if (fault != NONE) return fault;
            at = pastBlanks(text, size, at + 4);
        }
        return aside.people == 0 ? size : NONE;
    }

    private int readOne(byte[] text, int size, int at) {
        int kind = kindOfLetter(text[at]);
        if (kind == NONE || aside.people == PEOPLE_MOST) return at;
        int stop = pastFigures(text, size, at + 1, 3);
        if (stop < at + 4) return stop;
        int has = 10 * figure(text[at + 2]) + figure(text[at + 3]);
        if (has > HAS_MOST) return at + 2;
        aside.join(kind, figure(text[at + 1]), has);
        return NONE;
    }

    private static int pastBlanks(byte[] text, int size, int from) {
        int at = from;
        while (at < size && text[at] == BLANK) at++;
        return at;
    }

    /** Behind as many figures as wanted, or the first place where there is none (perhaps the size). */
    private static int pastFigures(byte[] text, int size, int from, int wanted) {
        int at = from;
        while (at < from + wanted && at < size && text[at] >= '0' && text[at] <= '9') at++;
        return at;
    }

    private static int figure(byte letter) {
        return letter - '0';
    }

    private static int kindOfLetter(byte letter) {
        for (int kind = 0; kind < KINDS; kind++) {
            if (LETTERS[kind] == letter) return kind;
        }
        return NONE;
    }

    // what is done

    private int doDeed(int what, int detail) {
        int code = what * DETAILS + detail;
        deeds.add(code);
        return now.undergo(code);
    }

    private void doAllAgain() {
        now.become(start);
        for (int k = 0; k < deeds.size; k++) now.undergo(deeds.deed[k]);
    }

    private void doLot(int lot) {
        int by64 = lot / 64;
        switch (lot / 8 % 8) {
            case 4: doDeed(SPOON, 1 + by64 % SPOON_MOST); break;
            case 5: doDeed(WIND, by64 % 3); break;
            case 6: doDeed(RAIN, 1 - now.rain); break;
            case 7: doDeed(STAND, oneOfLot(lot) * PLACES + by64 % PLACES); break;
            default: doDeed(TURN, 0); break;
        }
    }

    private int oneOfLot(int lot) {
        return now.people == 0 ? 0 : lot % now.people;
    }

    // what comes, aside

    private int shareWithout(int gone, int i, int n) {
        aside.become(now);
        for (int k = 0; k < n; k++) aside.pass(gone);
        return aside.has[i];
    }

    private int gatherersBy(int spoon, int n) {
        aside.become(now);
        aside.putIn(spoon);
        int who = 0;
        for (int k = 0; k < n; k++) who |= aside.pass(0);
        return who;
    }

    private boolean asideFits(int i, int r) {
        for (int k = 0; k < rowSize[r]; k++) {
            aside.pass(0);
            if (aside.has[i] != rows[r][k]) return false;
        }
        return true;
    }

    private int fittingSizes(int i, int r) {
        int set = 0;
        for (int size = 0; size <= SIZES_MOST; size++) {
            aside.become(now);
            aside.beOfSize(size);
            if (asideFits(i, r)) set |= 1 << size;
        }
        return set;
    }

    /** For each one of PEOPLE, by how many of the sizes it HAS how much behind n TURNS. */
    private void tallyShares(int set, int n) {
        for (int q = 0; q < PEOPLE_MOST; q++) Arrays.fill(tally[q], 0);
        for (int size = 0; size <= SIZES_MOST; size++) {
            if ((set >> size & 1) == 1) {
                aside.become(now);
                aside.beOfSize(size);
                aside.passAll(n);
                for (int q = 0; q < now.people; q++) tally[q][aside.has[q]]++;
            }
        }
    }

    private static int greatestOf(int[] parts) {
        int greatest = 0;
        for (int part : parts) greatest = Math.max(greatest, part);
        return greatest;
    }

    /** What the first one gets over the second, who stand so and have so many rounds of moves left. */
    private int firstGoes(int i, int j, int firstPlace, int secondPlace, int rounds) {
        if (rounds <= 0) return duelEnd(i, j, firstPlace, secondPlace);
        int most = -HAS_MOST;
        for (int step = -1; step <= 1; step++) {
            int place = Math.floorMod(firstPlace + step, PLACES);
            most = Math.max(most, secondGoes(i, j, place, secondPlace, rounds));
        }
        return most;
    }

    private int secondGoes(int i, int j, int firstPlace, int secondPlace, int rounds) {
        int fewest = HAS_MOST;
        for (int step = -1; step <= 1; step++) {
            int place = Math.floorMod(secondPlace + step, PLACES);
            fewest = Math.min(fewest, firstGoes(i, j, firstPlace, place, rounds - 1));
        }
        return fewest;
    }

    private int duelEnd(int i, int j, int firstPlace, int secondPlace) {
        aside.become(now);
        aside.place[i] = firstPlace;
        aside.place[j] = secondPlace;
        for (int k = 0; k < DUEL_TURNS; k++) aside.pass(0);
        return aside.has[i] - aside.has[j];
    }

    // chances

    private long weightOf(int gone, int p) {
        int many = Integer.bitCount(gone);
        return power(p, many) * power(CHANCES - p, now.people - many);
    }

    private static long power(long base, int times) {
        long product = 1;
        for (int k = 0; k < times; k++) product *= base;
        return product;
    }

    private void tellParts(long up, long low) {
        long divisor = commonDivisor(up, low);
        if (divisor <= 0) return;
        above = up / divisor;
        below = low / divisor;
    }

    private static long commonDivisor(long a, long b) {
        long big = a;
        long small = b;
        // Euclid needs fewer than a hundred steps for any two longs
        for (int k = 0; k < 100 && small != 0; k++) {
            long rest = big % small;
            big = small;
            small = rest;
        }
        return big;
    }

    // what is told

    private int valueOfOne(int i, int what) {
        switch (what) {
            case 0: return now.kind[i];
            case 1: return now.place[i];
            case 2: return now.has[i];
            case 3: return now.partFor(i, now.cloud);
            default: return now.farFromCloud(i);
        }
    }

    private int leastCloudAlike(Person person) {
        int part = person.partOf(now.cloud);
        for (int size = 0; size < now.cloud; size++) {
            if (person.partOf(size) == part) return size;
        }
        return now.cloud;
    }

    private int beards() {
        int many = 0;
        for (int i = 0; i < now.people; i++) {
            if (now.personOf(i) instanceof Beard) many++;
        }
        return many;
    }

    private int wasps() {
        int many = 0;
        for (int i = 0; i < now.people; i++) {
            if (now.personOf(i) instanceof Wasp) many++;
        }
        return many;
    }

    private static int howManyThere(int[] size) {
        int many = 0;
        for (int s : size) {
            if (s != MISSING) many++;
        }
        return many;
    }

    private int howManyKept() {
        int many = 0;
        for (Deeds one : kept) {
            if (one.size != MISSING) many++;
        }
        return many;
    }
}
