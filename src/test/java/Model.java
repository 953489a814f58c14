import java.math.BigInteger;
import java.util.ArrayList;
import java.util.Arrays;
import java.util.HashMap;
import java.util.List;
import java.util.Map;

/**
 * The document once more, in another way, for random runs: values that are never changed, the whole past as a list,
 * numbers of KINDS in plain tables, and the library's own big numbers.
 */
final class Model {
    private static final int BAD = -1, FULL = -2, FINDING = -3, STATE = -4, NONE = -9;
    private static final String LETTERS = "pbgwil";

    /** One time of a FRONT. */
    record Scene(int[] kind, int[] place, int[] has, int cloud, int where, int wind, boolean rain, int turn, int who) {
        Scene with(int newCloud, int newWhere, int newWind, boolean newRain) {
            return new Scene(kind, place, has, newCloud, newWhere, newWind, newRain, turn, 0);
        }

        Scene moved(int i, int to) {
            int[] p = place.clone();
            p[i] = to;
            return new Scene(kind, p, has, cloud, where, wind, rain, turn, 0);
        }

        Scene changed(int i, int newKind) {
            int[] k = kind.clone();
            k[i] = newKind;
            return new Scene(k, place, has, cloud, where, wind, rain, turn, 0);
        }

        int all() {
            return Arrays.stream(has).sum();
        }
    }

    private final Map<Integer, int[]> rows = new HashMap<>();
    private final Map<Integer, byte[]> texts = new HashMap<>();
    private List<Scene> past = new ArrayList<>();
    private final Map<Integer, List<Scene>> kept = new HashMap<>();
    private int drum, growth;
    private int asked, finding;
    private long upper, lower = 1;
    private final int[] findings = new int[6];

    private Scene now() {
        return past.get(past.size() - 1);
    }

    private boolean none() {
        return past.isEmpty();
    }

    private int people() {
        return none() ? 0 : now().kind().length;
    }

    private boolean noOne(int i) {
        return i < 0 || i >= people();
    }

    private int deeds() {
        return none() ? 0 : past.size() - 1;
    }

    private int find(int f) {
        finding = f;
        findings[f]++;
        return FINDING;
    }

    private int told(int v) {
        asked = v;
        return 1;
    }

    private static boolean within(int v, int low, int high) {
        return low <= v && v <= high;
    }

    static int part(int kind, int cloud) {
        if (kind == 2) return cloud < 9 ? cloud : 9;
        if (kind == 5 && cloud > 19) return cloud;
        if (kind == 3 || kind == 5) return cloud >> 1;
        return cloud < 2 ? cloud : 2;
    }

    private Scene turned(Scene s, int gone) {
        int cloud = s.cloud(), where = s.where(), who = 0;
        int[] has = s.has().clone();
        if (cloud > 0) {
            cloud = s.rain() ? cloud / 2 : Math.min(60, cloud + growth);
            where = (where + 9 + s.wind()) % 10;
        }
        for (int i = 0; i < has.length; i++) {
            if (s.place()[i] != where || (gone & 1 << i) != 0) continue;
            int part = part(s.kind()[i], cloud);
            if (part == 0) continue;
            who += 1 << i;
            has[i] = Math.min(30, has[i] + part);
            cloud -= part;
            if (s.kind()[i] == 4) cloud = Math.min(60, cloud + 3);
        }
        for (int i = 0; s.rain() && i < has.length; i++) if (s.kind()[i] != 1 && s.kind()[i] != 4) has[i] /= 2;
        return new Scene(s.kind(), s.place(), has, cloud, cloud == 0 ? drum : where, s.wind(), s.rain(), s.turn() + 1, who);
    }

    private Scene after(Scene s, int n) {
        for (int k = 0; k < n; k++) s = turned(s, 0);
        return s;
    }

    private int done(Scene s) {
        past.add(s);
        return s.who();
    }

    int row(int r, int n) {
        if (!within(r, 0, 5) || n > 40) return BAD;
        if (n < 0) return find(5);
        rows.put(r, new int[n]);
        return n;
    }

    private int place(int r, int i) {
        if (!within(r, 0, 5)) return BAD;
        if (!rows.containsKey(r)) return find(1);
        return within(i, 0, rows.get(r).length - 1) ? 0 : find(2);
    }

    int lay(int r, int i, int v) {
        int no = place(r, i);
        if (no != 0) return no;
        told(rows.get(r)[i]);
        rows.get(r)[i] = v;
        return 1;
    }

    int at(int r, int i) {
        int no = place(r, i);
        return no != 0 ? no : told(rows.get(r)[i]);
    }

    int tear(int r) {
        if (!within(r, 0, 5)) return BAD;
        return rows.remove(r) == null ? find(1) : 1;
    }

    int copy(int r, int i, int to, int j, int n) {
        if (!within(r, 0, 5) || !within(to, 0, 5)) return BAD;
        if (n < 0) return find(5);
        int[] a = rows.get(r), b = rows.get(to);
        if (a == null || b == null) return find(1);
        if (i < 0 || j < 0 || (long) i + n > a.length || (long) j + n > b.length) return find(2);
        int[] taken = Arrays.copyOfRange(a, i, i + n);
        for (int k = 0; k < n; k++) b[j + k] = taken[k];
        return 1;
    }

    int mean(int r) {
        if (!within(r, 0, 5)) return BAD;
        int[] a = rows.get(r);
        if (a == null) return find(1);
        if (a.length == 0) return find(4);
        BigInteger sum = BigInteger.ZERO;
        for (int v : a) sum = sum.add(BigInteger.valueOf(v));
        return told(sum.divide(BigInteger.valueOf(a.length)).intValueExact());
    }

    int text(int t, int n) {
        if (!within(t, 0, 3) || n > 60) return BAD;
        if (n < 0) return find(5);
        byte[] b = new byte[n];
        Arrays.fill(b, (byte) 32);
        texts.put(t, b);
        return n;
    }

    int put(int t, int i, int v) {
        if (!within(t, 0, 3)) return BAD;
        byte[] b = texts.get(t);
        if (b == null) return find(1);
        if (!within(i, 0, b.length - 1)) return find(2);
        int was = b[i];
        b[i] = (byte) v;
        return 1000 + was;
    }

    /** By states of the language: what may come at each byte. */
    private static int faultOf(byte[] b) {
        String wanted = "d..";
        int at = 0, people = -1, first = 0;
        for (int k = 0; k < b.length; k++) {
            char c = (char) (b[k] & 255);
            if (at == 0 && c == ' ') continue;
            if (at == 0) {
                if (people < 0 ? c != 'd' : people == 6 || LETTERS.indexOf(c) < 0) return k;
                wanted = people < 0 ? "d.." : "p.hh";
            } else {
                if (c < '0' || c > '9') return k;
                if (wanted.length() == 4 && at == 2) first = c - '0';
                if (wanted.length() == 4 && at == 3 && first * 10 + c - '0' > 30) return k - 1;
            }
            at++;
            if (at == wanted.length()) {
                at = 0;
                people++;
            }
        }
        return at != 0 || people < 1 ? b.length : NONE;
    }

    int fault(int t) {
        if (!within(t, 0, 3)) return BAD;
        return texts.containsKey(t) ? faultOf(texts.get(t)) : find(1);
    }

    int front(int t) {
        if (!within(t, 0, 3)) return BAD;
        if (!texts.containsKey(t)) return find(1);
        if (faultOf(texts.get(t)) != NONE) return STATE;
        StringBuilder s = new StringBuilder();
        for (byte b : texts.get(t)) if (b != 32) s.append((char) b);
        drum = s.charAt(1) - '0';
        growth = s.charAt(2) - '0';
        int n = (s.length() - 3) / 4;
        int[] kind = new int[n], place = new int[n], has = new int[n];
        for (int i = 0; i < n; i++) {
            String one = s.substring(3 + 4 * i, 7 + 4 * i);
            kind[i] = LETTERS.indexOf(one.charAt(0));
            place[i] = Integer.parseInt(one.substring(1, 2));
            has[i] = Integer.parseInt(one.substring(2));
        }
        past = new ArrayList<>();
        past.add(new Scene(kind, place, has, 0, drum, 1, false, 0, 0));
        kept.clear();
        return n;
    }

    private int ofOne(int i, int what) {
        Scene s = now();
        int on = (s.place()[i] - s.where() + 10) % 10;
        int[] v = {s.kind()[i], s.place()[i], s.has()[i], part(s.kind()[i], s.cloud()), Math.min(on, 10 - on)};
        return v[what];
    }

    int one(int i, int what) {
        return noOne(i) || !within(what, 0, 4) ? BAD : told(ofOne(i, what));
    }

    int mark(int i, int kind) {
        if (noOne(i) || !within(kind, 1, 5)) return BAD;
        int its = now().kind()[i], cloud = now().cloud();
        if (its != kind && !(its == 4 && kind == 1) && !(its == 5 && kind == 3)) return find(3);
        if (kind == 1) return now().all() - now().has()[i];
        if (kind == 2) return 30 - now().has()[i];
        if (kind == 4) return 60 - cloud;
        if (kind == 5) return cloud > 20 ? 0 : 20 - cloud;
        int least = 0;
        while (part(its, least) != part(its, cloud)) least++;
        return least;
    }

    int turn() {
        if (none()) return STATE;
        return deeds() == 40 ? FULL : done(turned(now(), 0));
    }

    private static Scene spooned(Scene s, int n) {
        return s.with(Math.min(60, s.cloud() + n), s.where(), s.wind(), s.rain());
    }

    int spoon(int n) {
        if (!within(n, 1, 9)) return BAD;
        if (none() || now().cloud() == 60) return STATE;
        if (deeds() == 40) return FULL;
        done(spooned(now(), n));
        return now().cloud();
    }

    int wind(int w) {
        if (!within(w, 0, 2)) return BAD;
        if (none() || now().wind() == w) return STATE;
        if (deeds() == 40) return FULL;
        int was = now().wind();
        done(now().with(now().cloud(), now().where(), w, now().rain()));
        return was;
    }

    int rain(int is) {
        if (!within(is, 0, 1)) return BAD;
        if (none() || now().rain() == (is == 1)) return STATE;
        if (deeds() == 40) return FULL;
        done(now().with(now().cloud(), now().where(), now().wind(), is == 1));
        return is;
    }

    int stand(int i, int place) {
        if (noOne(i) || !within(place, 0, 9)) return BAD;
        int was = now().place()[i];
        if (was == place) return STATE;
        if (deeds() == 40) return FULL;
        done(now().moved(i, place));
        return was;
    }

    int undo(int n) {
        if (!within(n, 0, deeds())) return BAD;
        int many = deeds() - n;
        if (many == 0) return 0;
        past = new ArrayList<>(past.subList(0, n + 1));
        return many;
    }

    int keep(int k) {
        if (!within(k, 0, 2)) return BAD;
        if (none()) return STATE;
        kept.put(k, new ArrayList<>(past));
        return deeds();
    }

    int on(int k) {
        if (!within(k, 0, 2)) return BAD;
        if (!kept.containsKey(k)) return find(1);
        past = new ArrayList<>(kept.get(k));
        return deeds();
    }

    int gathers(int i, int cloud) {
        return noOne(i) || !within(cloud, 0, 60) ? BAD : part(now().kind()[i], cloud);
    }

    int cloud(int n) {
        if (!within(n, 0, 40)) return BAD;
        if (none()) return STATE;
        Scene s = after(now(), n);
        asked = s.where();
        return s.cloud();
    }

    int share(int i, int n) {
        return noOne(i) || !within(n, 0, 40) ? BAD : after(now(), n).has()[i];
    }

    int first(int i) {
        if (noOne(i)) return BAD;
        for (int n = 1; n <= 40; n++) if ((after(now(), n).who() >> i) % 2 == 1) return n;
        return NONE;
    }

    int away(int i, int v, int n) {
        if (noOne(i) || !within(v, 0, 30) || !within(n, 1, 20)) return BAD;
        for (int many = 0; many < people(); many++) {
            for (int set = 0; set < 64 >> 6 - people(); set++) {
                if (Integer.bitCount(set) != many || (set & 1 << i) != 0) continue;
                Scene s = now();
                for (int k = 0; k < n; k++) s = turned(s, set);
                if (s.has()[i] >= v) {
                    asked = set;
                    return many;
                }
            }
        }
        return NONE;
    }

    int best(int i, int n) {
        if (noOne(i) || !within(n, 1, 20)) return BAD;
        int[] gets = new int[10];
        for (int p = 0; p < 10; p++) gets[p] = after(now().moved(i, p), n).has()[i];
        asked = Arrays.stream(gets).max().getAsInt();
        int p = 0;
        while (gets[p] != asked) p++;
        return p;
    }

    int least(int set, int n) {
        if (set < 0 || set >> people() != 0 || !within(n, 1, 20)) return BAD;
        if (none()) return STATE;
        for (int spoon = 0; spoon <= 30; spoon++) {
            int missing = set;
            Scene s = spooned(now(), spoon);
            for (int k = 0; k < n; k++) {
                s = turned(s, 0);
                missing &= ~s.who();
            }
            if (missing == 0) return spoon;
        }
        return NONE;
    }

    private int had(int i, int r) {
        if (noOne(i) || !within(r, 0, 5)) return BAD;
        int[] a = rows.get(r);
        if (a == null) return find(1);
        if (!within(a.length, 1, 10)) return find(5);
        for (int v : a) if (!within(v, 0, 30)) return find(3);
        return 0;
    }

    private boolean fits(Scene s, int i, int r) {
        int[] a = rows.get(r);
        for (int k = 1; k <= a.length; k++) if (after(s, k).has()[i] != a[k - 1]) return false;
        return true;
    }

    private Scene sized(int size) {
        return now().with(size, size == 0 ? drum : now().where(), now().wind(), now().rain());
    }

    int sizes(int i, int r) {
        int no = had(i, r);
        if (no != 0) return no;
        int set = 0;
        for (int size = 0; size <= 30; size++) if (fits(sized(size), i, r)) set |= 1 << size;
        return set;
    }

    int winds(int i, int r) {
        int no = had(i, r);
        if (no != 0) return no;
        int set = 0;
        for (int w = 0; w < 3; w++) {
            if (fits(now().with(now().cloud(), now().where(), w, now().rain()), i, r)) set |= 1 << w;
        }
        return set;
    }

    int kinds(int i, int r) {
        int no = had(i, r);
        if (no != 0) return no;
        int set = 0;
        for (int k = 0; k < 6; k++) if (fits(now().changed(i, k), i, r)) set |= 1 << k;
        return set;
    }

    int next(int i, int r) {
        int no = had(i, r);
        if (no != 0) return no;
        int[] worst = new int[people()];
        for (int q = 0; q < people(); q++) {
            Map<Integer, Integer> parts = new HashMap<>();
            for (int size = 0; size <= 30; size++) {
                if (fits(sized(size), i, r)) parts.merge(after(sized(size), rows.get(r).length).has()[q], 1, Integer::sum);
            }
            if (parts.isEmpty()) return NONE;
            worst[q] = parts.values().stream().max(Integer::compare).get();
        }
        int whom = 0;
        for (int q = 1; q < people(); q++) if (worst[q] < worst[whom]) whom = q;
        asked = worst[whom];
        return whom;
    }

    private List<Integer> setsOf(int v) {
        List<Integer> sets = new ArrayList<>();
        for (int set = 0; set < 1 << people(); set++) {
            int sum = 0;
            for (int i = 0; i < people(); i++) sum += (set >> i) % 2 * now().has()[i];
            if (sum == v) sets.add(set);
        }
        return sets;
    }

    int sets(int v) {
        if (!within(v, 0, 180)) return BAD;
        if (none()) return STATE;
        List<Integer> sets = setsOf(v);
        upper = sets.size();
        lower = 1;
        return told(sets.isEmpty() ? NONE : sets.get(0));
    }

    int sure(int v) {
        if (!within(v, 0, 180)) return BAD;
        if (none()) return STATE;
        List<Integer> sets = setsOf(v);
        if (sets.isEmpty()) return find(4);
        int in = 0, out = 0;
        for (int i = 0; i < people(); i++) {
            int bit = 1 << i;
            if (sets.stream().allMatch(s -> (s & bit) != 0)) in += bit;
            if (sets.stream().allMatch(s -> (s & bit) == 0)) out += bit;
        }
        asked = out;
        return in;
    }

    private int play(Scene s, int mover, int other, int left, int sign) {
        if (left == 0) {
            Scene end = after(s, 3);
            return sign * (end.has()[mover] - end.has()[other]);
        }
        int best = -99;
        for (int step : new int[] {9, 0, 1}) {
            Scene t = s.moved(mover, (s.place()[mover] + step) % 10);
            best = Math.max(best, sign * play(t, other, mover, left - 1, -sign));
        }
        return sign * best;
    }

    int duel(int i, int j, int n) {
        if (noOne(i) || noOne(j) || i == j || !within(n, 0, 2)) return BAD;
        return told(play(now(), i, j, 2 * n, 1));
    }

    private void tell(BigInteger up, BigInteger low) {
        BigInteger g = up.gcd(low);
        upper = up.divide(g).longValueExact();
        lower = low.divide(g).longValueExact();
    }

    /** The chance of each set of those away, with each one by itself. */
    private BigInteger chance(int gone, int p) {
        BigInteger c = BigInteger.ONE;
        for (int i = 0; i < people(); i++) c = c.multiply(BigInteger.valueOf((gone & 1 << i) != 0 ? p : 12 - p));
        return c;
    }

    private void meanOf(int p, int i) {
        BigInteger sum = BigInteger.ZERO;
        for (int gone = 0; gone < 1 << people(); gone++) {
            Scene s = turned(now(), gone);
            int value = i == NONE ? s.cloud() : s.who() >> i & 1;
            sum = sum.add(chance(gone, p).multiply(BigInteger.valueOf(value)));
        }
        tell(sum, BigInteger.valueOf(12).pow(people()));
    }

    int odds(int i, int p) {
        if (noOne(i) || !within(p, 0, 12)) return BAD;
        meanOf(p, i);
        return 1;
    }

    int mid(int p) {
        if (!within(p, 0, 12)) return BAD;
        if (none()) return STATE;
        meanOf(p, NONE);
        return 1;
    }

    int lots(int n, int seed) {
        if (!within(n, 1, 20) || !within(seed, 1, 2147483646)) return BAD;
        if (none()) return STATE;
        if (deeds() + n > 40) return FULL;
        BigInteger x = BigInteger.valueOf(seed);
        for (int k = 0; k < n; k++) {
            x = x.multiply(BigInteger.valueOf(48271)).mod(BigInteger.valueOf(2147483647));
            int lot = x.intValueExact();
            int high = lot >> 6;
            Scene s = now();
            switch (lot >> 3 & 7) {
                case 4: done(spooned(s, 1 + high % 9)); break;
                case 5: done(s.with(s.cloud(), s.where(), high % 3, s.rain())); break;
                case 6: done(s.with(s.cloud(), s.where(), s.wind(), !s.rain())); break;
                case 7: done(s.moved(lot % people(), high % 10)); break;
                default: done(turned(s, 0)); break;
            }
        }
        return now().all();
    }

    int asked() {
        return asked;
    }

    long upper() {
        return upper;
    }

    long lower() {
        return lower;
    }

    int count(int what) {
        if (!within(what, 0, 14)) return BAD;
        if (what == 12) return rows.size();
        if (what == 13) return texts.size();
        if (what == 14) return kept.size();
        if (none()) return what == 3 ? 1 : 0;
        Scene s = now();
        int beards = 0, wasps = 0;
        for (int k : s.kind()) {
            if (k == 1 || k == 4) beards++;
            if (k == 3 || k == 5) wasps++;
        }
        int[] v = {people(), s.cloud(), s.where(), s.wind(), s.rain() ? 1 : 0, s.turn(), deeds(), drum, growth, s.all(),
            beards, wasps};
        return v[what];
    }

    int finding() {
        return finding;
    }

    int findings(int f) {
        return within(f, 1, 5) ? findings[f] : BAD;
    }

    long digest() {
        List<Long> v = new ArrayList<>();
        for (int k = 0; k < 15; k++) v.add((long) count(k));
        for (int i = 0; i < people(); i++) for (int k = 0; k < 5; k++) v.add((long) ofOne(i, k));
        for (int k = 0; k < 3; k++) v.add(kept.containsKey(k) ? kept.get(k).size() - 1L : -1L);
        for (int r = 0; r < 6; r++) {
            v.add(rows.containsKey(r) ? rows.get(r).length : -1L);
            if (rows.containsKey(r)) for (int x : rows.get(r)) v.add((long) x);
        }
        for (int t = 0; t < 4; t++) {
            v.add(texts.containsKey(t) ? texts.get(t).length : -1L);
            if (texts.containsKey(t)) for (byte x : texts.get(t)) v.add((long) x);
        }
        long h = 17;
        for (long x : v) h = 31 * h + x;
        return h;
    }
}
