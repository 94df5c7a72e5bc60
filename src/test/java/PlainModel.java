import java.util.ArrayList;
import java.util.HashSet;
import java.util.List;
import java.util.Set;

/**
 * The document once more, in the plainest form and without regard to speed: HARM is always counted
 * anew from all wants, crowds are all sets, bounds are all orders. ModelTest holds WavePlan against it.
 */
final class PlainModel {
    static final class M {
        int number, kind, x, y, power, wants, first, list = (1 << 30) - 1, d = 5;

        M snapshot() {
            M m = new M();
            m.number = number; m.kind = kind; m.x = x; m.y = y; m.power = power;
            m.wants = wants; m.first = first; m.list = list; m.d = d;
            return m;
        }
    }

    final List<M> masts = new ArrayList<>();
    final List<M> ofWant = new ArrayList<>();
    final List<int[]> rows = new ArrayList<>();
    int[] plan = new int[16];
    final int[] stay = new int[16];
    int own = 2, sums = -1, line = -1, width, first, second, tries;
    int[] image;
    final Object[] shelves = new Object[8];

    PlainModel() {
        for (int i = 0; i < 16; i++) {
            plan[i] = -2;
            stay[i] = -1;
        }
    }

    private static boolean in(int v, int low, int high) {
        return low <= v && v <= high;
    }

    private boolean noMast(int m) {
        return m < 0 || m >= masts.size();
    }

    private boolean noWant(int w) {
        return w < 0 || w >= ofWant.size();
    }

    private static boolean noPlace(int p) {
        return p < 0 || p >> 6 > 60 || (p & 63) > 60;
    }

    int mast(int kind, int place, int power, int wants) {
        if (!in(kind, 0, 3) || noPlace(place) || !in(power, 0, 3) || !in(wants, 1, 3)) return -1;
        if (masts.size() == 12 || ofWant.size() + wants > 16) return -2;
        M m = new M();
        m.number = masts.size(); m.kind = kind; m.x = place >> 6; m.y = place & 63;
        m.power = power; m.wants = wants; m.first = ofWant.size();
        masts.add(m);
        for (int i = 0; i < wants; i++) ofWant.add(m);
        return m.number;
    }

    int move(int mast, int place) {
        if (noMast(mast) || noPlace(place)) return -1;
        int[] before = new int[masts.size()];
        for (int b = 0; b < before.length; b++) before[b] = bar(mast, b);
        masts.get(mast).x = place >> 6;
        masts.get(mast).y = place & 63;
        int others = 0;
        for (int b = 0; b < before.length; b++) if (before[b] != bar(mast, b)) others++;
        return others;
    }

    int list(int mast, int channels) {
        if (noMast(mast) || channels < 0 || channels >= 1 << 30) return -1;
        masts.get(mast).list = channels;
        return Integer.bitCount(channels);
    }

    int gap(int mast, int d) {
        if (noMast(mast) || masts.get(mast).kind != 1 || !in(d, 1, 10)) return -1;
        int before = masts.get(mast).d;
        masts.get(mast).d = d;
        return before;
    }

    int stay(int want, int channel) {
        if (noWant(want) || ofWant.get(want).kind != 2 || !in(channel, -1, 29)) return -1;
        stay[want] = channel;
        return 0;
    }

    int row(int limit, int power, int n) {
        if (!in(limit, 0, 10000) || !in(power, 0, 6) || !in(n, 0, 4)) return -1;
        if (rows.size() == 8) return -2;
        rows.add(new int[] {limit, power, n});
        return rows.size();
    }

    int own(int o, int s) {
        if (!in(o, 0, 6) || !in(s, -1, 10000)) return -1;
        own = o;
        sums = s;
        return 0;
    }

    int border(int l, int w, int f, int s) {
        if (!in(l, -1, 60) || !in(w, 0, 60) || f < 0 || f >= 1 << 30 || s < 0 || s >= 1 << 30) return -1;
        line = l; width = w; first = f; second = s;
        return 0;
    }

    int turn() {
        boolean[] before = new boolean[16];
        for (int w = 0; w < ofWant.size(); w++) before[w] = mayHave(w, plan[w]);
        int t = first; first = second; second = t;
        int n = 0;
        for (int w = 0; w < ofWant.size(); w++) if (plan[w] != -2 && before[w] && !mayHave(w, plan[w])) n++;
        return n;
    }

    private static int square(M a, M b) {
        return (a.x - b.x) * (a.x - b.x) + (a.y - b.y) * (a.y - b.y);
    }

    private int barOf(M a, M b) {
        if (a == b) return own;
        int n = 0;
        for (int[] r : rows) if (r[0] >= square(a, b) && r[1] <= a.power + b.power && r[2] > n) n = r[2];
        return n;
    }

    private boolean areIn(M a, M b, M c) {
        return a != b && b != c && a != c
                && square(a, b) <= sums && square(b, c) <= sums && square(a, c) <= sums;
    }

    int bar(int a, int b) {
        return noMast(a) || noMast(b) ? -1 : barOf(masts.get(a), masts.get(b));
    }

    private boolean mayHave(int w, int c) {
        M m = ofWant.get(w);
        if (c < 0 || c > 29 || (m.list >> c & 1) == 0) return false;
        if (m.kind == 1 && (c + m.d > 29 || (m.list >> c + m.d & 1) == 0)) return false;
        if (m.kind == 3 && line != -1 && Math.abs(m.x - line) <= width) {
            int half = m.x < line ? first : second;
            if ((half >> c & 1) == 0) return false;
        }
        return stay[w] == -1 || stay[w] == c;
    }

    int may(int want, int channel) {
        return noWant(want) ? -1 : mayHave(want, channel) ? 1 : 0;
    }

    int set(int want, int channel) {
        if (noWant(want) || !in(channel, -1, 29)) return -1;
        int before = plan[want];
        plan[want] = channel == -1 ? -2 : channel;
        return before;
    }

    int channel(int want) {
        return noWant(want) ? -1 : plan[want];
    }

    int of(int want) {
        return noWant(want) ? -1 : ofWant.get(want).number;
    }

    private int[] channels(int[] p, int w) {
        if (p[w] == -2) return new int[0];
        M m = ofWant.get(w);
        return m.kind == 1 ? new int[] {p[w], p[w] + m.d} : new int[] {p[w]};
    }

    private int lack(int[] p, int u, int v) {
        int most = 0;
        for (int a : channels(p, u)) {
            for (int b : channels(p, v)) {
                most = Math.max(most, barOf(ofWant.get(u), ofWant.get(v)) - Math.abs(a - b));
            }
        }
        return most;
    }

    /** Every want in turn is the one with p; q and r are of two others. */
    private int threes(int[] p) {
        int n = 0;
        for (int a = 0; a < ofWant.size(); a++) {
            for (int b = 0; b < ofWant.size(); b++) {
                for (int c = b + 1; c < ofWant.size(); c++) {
                    if (p[a] == -2 || p[b] == -2 || p[c] == -2) continue;
                    if (!areIn(ofWant.get(a), ofWant.get(b), ofWant.get(c))) continue;
                    for (int x : channels(p, a)) {
                        for (int y : channels(p, b)) {
                            for (int z : channels(p, c)) {
                                if (y + z == 2 * x) n++;
                            }
                        }
                    }
                }
            }
        }
        return n;
    }

    private int harmOf(int[] p) {
        int h = 0;
        for (int u = 0; u < ofWant.size(); u++) {
            for (int v = u + 1; v < ofWant.size(); v++) h += lack(p, u, v);
            if (p[u] != -2 && !mayHave(u, p[u])) h += 10;
        }
        return h + (sums < 0 ? 0 : 5 * threes(p));
    }

    int harm() {
        return harmOf(plan);
    }

    int kept() {
        for (int w = 0; w < ofWant.size(); w++) if (plan[w] == -2) return 0;
        return harm() == 0 ? 1 : 0;
    }

    private List<int[]> lacking() {
        List<int[]> found = new ArrayList<>();
        for (int u = 0; u < ofWant.size(); u++) {
            for (int v = u + 1; v < ofWant.size(); v++) {
                int l = lack(plan, u, v);
                if (l > 0) found.add(new int[] {u, v, l});
            }
        }
        return found;
    }

    int broken(int what) {
        int n = 0;
        switch (what) {
            case 0: return lacking().size();
            case 1: for (int[] l : lacking()) n += l[2]; return n;
            case 2: return threes(plan);
            case 3: for (int w = 0; w < ofWant.size(); w++) if (plan[w] != -2 && !mayHave(w, plan[w])) n++; return n;
            default: return -1;
        }
    }

    int pair(int i, int what) {
        List<int[]> found = lacking();
        return i < 0 || i >= found.size() || !in(what, 0, 2) ? -1 : found.get(i)[what];
    }

    private static final class Spent extends Exception {
        private static final long serialVersionUID = 1L;
    }

    /** The wants from w on, tried as told; true: all have one. */
    private boolean tryFrom(int[] p, int w, int n) throws Spent {
        if (w == ofWant.size()) return true;
        M m = ofWant.get(w);
        for (int c = 0; c < n; c++) {
            if (tries == 4000) throw new Spent();
            tries++;
            p[w] = c;
            boolean takes = mayHave(w, c) && (m.kind != 1 || c + m.d < n)
                    && (w == m.first || c > p[w - 1]) && harmOf(p) == 0;
            if (takes && tryFrom(p, w + 1, n)) return true;
            p[w] = -2;
        }
        return false;
    }

    private static int[] emptyPlan() {
        int[] p = new int[16];
        for (int i = 0; i < 16; i++) p[i] = -2;
        return p;
    }

    int plan(int n) {
        if (!in(n, 1, 30)) return -1;
        tries = 0;
        int[] p = emptyPlan();
        try {
            if (!tryFrom(p, 0, n)) return 0;
        } catch (Spent e) {
            return -2;
        }
        plan = p;
        return 1;
    }

    int tries() {
        return tries;
    }

    int least() {
        tries = 0;
        for (int n = 1; n <= 30; n++) {
            int[] p = emptyPlan();
            try {
                if (tryFrom(p, 0, n)) {
                    plan = p;
                    return n;
                }
            } catch (Spent e) {
                return -2;
            }
        }
        return -3;
    }

    int span() {
        int low = 1000, high = -1;
        for (int w = 0; w < ofWant.size(); w++) {
            for (int c : channels(plan, w)) {
                low = Math.min(low, c);
                high = Math.max(high, c);
            }
        }
        return high < 0 ? -2 : high - low;
    }

    int better(int n) {
        if (!in(n, 1, 50)) return -1;
        for (int done = 0; done < n; done++) {
            int bestHarm = harm(), bestWant = -1, bestChannel = -1;
            for (int w = 0; w < ofWant.size(); w++) {
                if (plan[w] == -2 || stay[w] != -1) continue;
                for (int c = 0; c < 30; c++) {
                    if (c == plan[w] || !mayHave(w, c)) continue;
                    int[] p = plan.clone();
                    p[w] = c;
                    int h = harmOf(p);
                    if (h < bestHarm) {
                        bestHarm = h; bestWant = w; bestChannel = c;
                    }
                }
            }
            if (bestWant < 0) return done;
            plan[bestWant] = bestChannel;
        }
        return n;
    }

    private boolean fixed(int w) {
        return stay[w] != -1;
    }

    /** What is broken among the others stays so, whatever these two have: then no way is tried. */
    private boolean cleanWithout(int u, int v) {
        int[] p = plan.clone();
        p[u] = -2;
        p[v] = -2;
        return harmOf(p) == 0;
    }

    int fewest(int most) {
        if (!in(most, 0, 2)) return -1;
        if (harm() == 0) return 0;
        for (int u = 0; most >= 1 && u < ofWant.size(); u++) {
            for (int c = 0; c < 30 && !fixed(u); c++) {
                int[] p = plan.clone();
                p[u] = c;
                if (c != plan[u] && mayHave(u, c) && harmOf(p) == 0) {
                    plan = p;
                    return 1;
                }
            }
        }
        for (int u = 0; most >= 2 && u < ofWant.size(); u++) {
            for (int v = u + 1; v < ofWant.size(); v++) {
                if (fixed(u) || fixed(v) || !cleanWithout(u, v)) continue;
                for (int c = 0; c < 30; c++) {
                    for (int e = 0; e < 30; e++) {
                        int[] p = plan.clone();
                        p[u] = c;
                        p[v] = e;
                        if (c != plan[u] && e != plan[v] && mayHave(u, c) && mayHave(v, e) && harmOf(p) == 0) {
                            plan = p;
                            return 2;
                        }
                    }
                }
            }
        }
        return -2;
    }

    private List<M> wantsOf(int bits) {
        List<M> wants = new ArrayList<>();
        for (M m : ofWant) if ((bits >> m.number & 1) != 0) wants.add(m);
        return wants;
    }

    private boolean isCrowd(int bits) {
        for (M a : masts) {
            for (M b : masts) {
                boolean both = (bits >> a.number & 1) != 0 && (bits >> b.number & 1) != 0;
                if (a != b && both && barOf(a, b) == 0) return false;
            }
        }
        return true;
    }

    private int leastOrder(List<M> left, M last) {
        if (left.isEmpty()) return 0;
        int least = 1000;
        for (int i = 0; i < left.size(); i++) {
            List<M> rest = new ArrayList<>(left);
            M m = rest.remove(i);
            least = Math.min(least, (last == null ? 0 : barOf(last, m)) + leastOrder(rest, m));
        }
        return least;
    }

    int bound(int bits) {
        if (bits <= 0 || bits >= 1 << masts.size()) return -1;
        if (!isCrowd(bits)) return -2;
        List<M> wants = wantsOf(bits);
        return wants.size() > 6 ? -3 : leastOrder(wants, null);
    }

    int crowd() {
        int best = 0, bestBound = -1;
        for (int bits = 1; bits < 1 << masts.size(); bits++) {
            int b = bound(bits);
            if (b > bestBound) {
                best = bits;
                bestBound = b;
            }
        }
        return best;
    }

    private int[] leastMates() {
        int n = masts.size();
        int[] least = new int[n];
        for (int i = 0; i < n; i++) least[i] = i;
        for (int round = 0; round < n; round++) {
            for (M a : masts) {
                for (M b : masts) {
                    boolean joined = a != b && barOf(a, b) > 0;
                    for (M c : masts) joined |= areIn(a, b, c);
                    if (joined) least[a.number] = Math.min(least[a.number], least[b.number]);
                }
            }
        }
        return least;
    }

    int part(int mast) {
        if (noMast(mast)) return -1;
        int[] least = leastMates();
        Set<Integer> before = new HashSet<>();
        for (int l : least) if (l < least[mast]) before.add(l);
        return before.size();
    }

    int image() {
        image = new int[ofWant.size()];
        System.arraycopy(plan, 0, image, 0, image.length);
        return count(6);
    }

    int restore() {
        if (image == null) return -2;
        int n = 0;
        for (int w = 0; w < image.length; w++) {
            if (plan[w] != image[w]) n++;
            plan[w] = image[w];
        }
        return n;
    }

    int count(int what) {
        int n = 0;
        switch (what) {
            case 0: return masts.size();
            case 1: return ofWant.size();
            case 2: return rows.size();
            case 3: for (M a : masts) for (M b : masts) if (a.number < b.number && barOf(a, b) > 0) n++; return n;
            case 4:
                for (M a : masts) for (M b : masts) for (M c : masts) if (areIn(a, b, c)) n++;
                return n / 6;
            case 5:
                Set<Integer> parts = new HashSet<>();
                for (int l : leastMates()) parts.add(l);
                return parts.size();
            case 6: for (int w = 0; w < ofWant.size(); w++) if (plan[w] != -2) n++; return n;
            default: return -1;
        }
    }

    int look(int mast, int what) {
        if (noMast(mast) || !in(what, 0, 7)) return -1;
        M m = masts.get(mast);
        return new int[] {m.kind, m.x, m.y, m.power, m.wants, m.first, Integer.bitCount(m.list), m.kind == 1 ? m.d : -2}[what];
    }

    private static boolean noShelf(int d) {
        return !in(d, 0, 7);
    }

    int keep(int d, int what, int k) {
        if (noShelf(d)) return -1;
        if (what == 0) {
            shelves[d] = null;
        } else if (what == 1 && !noMast(k)) {
            shelves[d] = masts.get(k).snapshot();
        } else if (what == 3) {
            byte[] bytes = new byte[ofWant.size()];
            for (int w = 0; w < bytes.length; w++) bytes[w] = (byte) plan[w];
            shelves[d] = bytes;
        } else if (what == 4 && !noMast(k)) {
            long[] longs = new long[masts.size()];
            for (int b = 0; b < longs.length; b++) longs[b] = square(masts.get(k), masts.get(b));
            shelves[d] = longs;
        } else {
            return -1;
        }
        return 0;
    }

    int make(int d, int what, int n) {
        if (noShelf(d) || !in(what, 3, 4) || n > 60) return -1;
        if (n < 0) return -14;
        shelves[d] = what == 3 ? new byte[n] : new long[n];
        return 0;
    }

    private static int length(Object row) {
        return row instanceof byte[] ? ((byte[]) row).length : ((long[]) row).length;
    }

    private static boolean isRow(Object o) {
        return o instanceof byte[] || o instanceof long[];
    }

    long element(int d, int i) {
        if (noShelf(d)) throw new IllegalArgumentException();
        if (!isRow(shelves[d]) || i < 0 || i >= length(shelves[d])) throw new IllegalStateException();
        return shelves[d] instanceof byte[] ? ((byte[]) shelves[d])[i] : ((long[]) shelves[d])[i];
    }

    int copy(int d, int i, int e, int j, int n) {
        if (noShelf(d) || noShelf(e)) return -1;
        Object a = shelves[d], b = shelves[e];
        if (a == null || b == null) return -11;
        if (!isRow(a) || !isRow(b) || a.getClass() != b.getClass()) return -12;
        if (n < 0 || i < 0 || j < 0 || (long) i + n > length(a) || (long) j + n > length(b)) return -13;
        System.arraycopy(a, i, b, j, n);
        return n;
    }

    int weight(int d) {
        if (noShelf(d)) return -1;
        if (shelves[d] == null) return -11;
        if (!(shelves[d] instanceof M)) return -12;
        M m = (M) shelves[d];
        int plain = m.number + 5 * m.wants + m.power;
        return m.kind == 1 ? plain + m.d : m.kind == 2 ? plain + 100 : m.kind == 3 ? 2 * plain : plain;
    }

    int toss(int d) {
        if (noShelf(d)) return -1;
        if (shelves[d] == null) return -11;
        if (!(shelves[d] instanceof M)) return -12;
        M m = (M) shelves[d];
        return m.kind == 0 ? -15 : m.number;
    }
}
