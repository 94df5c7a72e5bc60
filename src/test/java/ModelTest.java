import java.util.Random;

/** Told runs of random calls, each answered by WavePlan and by PlainModel; the seeds are fixed. */
public final class ModelTest {
    private static final int RUNS = 1500;
    private static final int CALLS = 90;
    private static final int[] EDGES = {
        -1, -2, Integer.MIN_VALUE, Integer.MAX_VALUE, 0, 29, 30, 31, 32, 60, 61, 64, 1 << 30, (1 << 30) - 1, 10000, 10001
    };

    private final Check check;
    private final Random random;
    private final int run;
    private final WavePlan real = new WavePlan();
    private final PlainModel model = new PlainModel();
    private final int field;
    private final int wantLimit;

    private ModelTest(Check check, int run) {
        this.check = check;
        this.run = run;
        random = new Random(run * 7919L + 13);
        field = 1 + random.nextInt(run % 3 == 0 ? 61 : 6);
        wantLimit = run % 10 == 0 ? 16 : 2 + random.nextInt(7);
    }

    public static void main(String[] args) {
        Check check = new Check();
        for (int run = 0; run < RUNS; run++) {
            new ModelTest(check, run).go();
        }
        new ModelTest(check, RUNS).betterBeyondFifty();
        check.finish();
    }

    private void go() {
        if (run % 20 == 0) {
            fill();
        } else if (random.nextInt(3) > 0) {
            settle();
        }
        for (int i = 0; i < CALLS; i++) {
            step(random.nextInt(48));
        }
        for (int w = 0; w < 16; w++) {
            due("channel", real.channel(w), model.channel(w), w);
        }
    }

    /** Begins with masts and rows, so that most calls have something to work on. */
    private void settle() {
        for (int i = 0; i < 3; i++) {
            row();
        }
        for (int i = 0; i < 6; i++) {
            mast();
        }
        own();
    }

    /** Begins with 12 masts, which have all 16 wants. */
    private void fill() {
        int[] wants = {1, 1, 1, 1, 1, 1, 1, 1, 1, 1, 1, 1};
        for (int i = 0; i < 4; i++) {
            int m = random.nextInt(12);
            wants[wants[m] < 3 ? m : (m + 1) % 12]++;
        }
        row();
        for (int w : wants) {
            int k = random.nextInt(4), p = 64 * random.nextInt(field) + random.nextInt(field), o = random.nextInt(4);
            due("mast", real.mast(k, p, o, w), model.mast(k, p, o, w), k, p, o, w);
        }
        due("least", real.least(), model.least());
    }

    /** An office, found by a search, in which BETTER can be done 53 times: the 51st is left for the next call. */
    private void betterBeyondFifty() {
        int[][] rows = {{126, 3, 2}, {27, 6, 0}, {70, 3, 3}, {183, 6, 2}};
        int[][] masts = {
            {1, 576, 2, 447778931, 8}, {0, 393, 2, 7893974, 10}, {1, 324, 3, 476799806, 2}, {0, 264, 0, 864392191, 7},
            {0, 389, 3, 666288409, 1}, {1, 579, 3, 399214109, 9}, {0, 7, 1, 115747699, 2}, {1, 321, 3, 2757781, 1},
            {0, 389, 2, 1063076934, 10}, {0, 577, 2, 223731827, 9}, {1, 451, 0, 878801647, 3}, {1, 8, 2, 787528639, 2}
        };
        int[] channels = {13, 5, 28, 13, 6, 19, 16, 21, 17, 13, 13, 28, 20, 21, 18, 4};
        for (int[] r : rows) {
            due("row", real.row(r[0], r[1], r[2]), model.row(r[0], r[1], r[2]), r);
        }
        due("own", real.own(0, 158), model.own(0, 158), 0, 158);
        for (int m = 0; m < masts.length; m++) {
            int[] a = masts[m];
            int wants = m < 4 ? 2 : 1;
            due("mast", real.mast(a[0], a[1], a[2], wants), model.mast(a[0], a[1], a[2], wants), a[0], a[1], a[2], wants);
            due("list", real.list(m, a[3]), model.list(m, a[3]), m, a[3]);
            due("gap", real.gap(m, a[4]), model.gap(m, a[4]), m, a[4]);
        }
        for (int w = 0; w < channels.length; w++) {
            due("set", real.set(w, channels[w]), model.set(w, channels[w]), w, channels[w]);
        }
        due("the model's better(50)", model.better(50), 50);
        due("better(50)", real.better(50), 50);
        due("harm behind it", real.harm(), model.harm());
        due("the model's better(50) again", model.better(50), 3);
        due("better(50) again", real.better(50), 3);
        due("harm at last", real.harm(), model.harm());
        due("no more", real.better(50), 0);
    }

    private void due(String call, long got, long want, int... args) {
        StringBuilder text = new StringBuilder("run " + run + ": " + call + "(");
        for (int i = 0; i < args.length; i++) {
            text.append(i == 0 ? "" : ", ").append(args[i]);
        }
        check.due(text.append(")").toString(), got, want);
    }

    /** Mostly a number of the range, now and then one from its edge or far outside. */
    private int pick(int low, int high) {
        int r = random.nextInt(40);
        if (r == 0) {
            return EDGES[random.nextInt(EDGES.length)];
        }
        if (r == 1) {
            return random.nextBoolean() ? low - 1 : high + 1;
        }
        return low + random.nextInt(high - low + 1);
    }

    private int place() {
        return random.nextInt(30) == 0 ? pick(0, 4000) : 64 * random.nextInt(field) + random.nextInt(field);
    }

    private int bits() {
        switch (random.nextInt(6)) {
            case 0: return pick(0, (1 << 30) - 1);
            case 1: return (1 << 30) - 1;
            case 2: return (1 << 1 + random.nextInt(29)) - 1;
            default: return random.nextInt(1 << 30) | random.nextInt(1 << 30);
        }
    }

    private int anyMast() {
        return pick(0, Math.max(0, model.count(0) - 1));
    }

    private int anyWant() {
        return pick(0, Math.max(0, model.count(1) - 1));
    }

    private int channel() {
        return random.nextInt(3) == 0 ? pick(-1, 29) : pick(0, 8);
    }

    /** Few shelves are used, so that they mostly hold something. */
    private int shelf() {
        return random.nextInt(4) == 0 ? pick(0, 7) : random.nextInt(3);
    }

    private void mast() {
        int k = pick(0, 3), p = place(), o = pick(0, 3), w = pick(1, 3);
        if (model.count(1) + w <= wantLimit || model.count(1) > 13) {
            due("mast", real.mast(k, p, o, w), model.mast(k, p, o, w), k, p, o, w);
        }
    }

    private void row() {
        int l = random.nextInt(4) == 0 ? pick(0, 10000) : pick(0, 2 * field * field), p = pick(0, 6), n = pick(0, 4);
        due("row", real.row(l, p, n), model.row(l, p, n), l, p, n);
    }

    private void own() {
        int o = pick(0, 6), s = random.nextInt(3) == 0 ? -1 : pick(-1, 2 * field * field);
        due("own", real.own(o, s), model.own(o, s), o, s);
    }

    private void step(int which) {
        switch (which) {
            case 0: case 1: case 2: case 3: mast(); break;
            case 4: row(); break;
            case 5: own(); break;
            case 6: { int m = anyMast(), p = place(); due("move", real.move(m, p), model.move(m, p), m, p); break; }
            case 7: { int m = anyMast(), b = bits(); due("list", real.list(m, b), model.list(m, b), m, b); break; }
            case 8: { int m = anyMast(), d = pick(1, 10); due("gap", real.gap(m, d), model.gap(m, d), m, d); break; }
            case 9: { int w = anyWant(), c = channel(); due("stay", real.stay(w, c), model.stay(w, c), w, c); break; }
            case 10: {
                int l = random.nextInt(3) == 0 ? pick(-1, 60) : pick(-1, field), w = pick(0, 60), f = bits(), s = bits();
                due("border", real.border(l, w, f, s), model.border(l, w, f, s), l, w, f, s);
                break;
            }
            case 11: due("turn", real.turn(), model.turn()); break;
            case 12: { int a = anyMast(), b = anyMast(); due("bar", real.bar(a, b), model.bar(a, b), a, b); break; }
            case 13: { int w = anyWant(), c = channel(); due("may", real.may(w, c), model.may(w, c), w, c); break; }
            case 14: case 15: case 16: case 17: case 18: {
                int w = anyWant(), c = channel();
                due("set", real.set(w, c), model.set(w, c), w, c);
                break;
            }
            case 19: { int w = anyWant(); due("of", real.of(w), model.of(w), w); break; }
            case 20: case 21: due("harm", real.harm(), model.harm()); break;
            case 22: due("kept", real.kept(), model.kept()); break;
            case 23: for (int i = -1; i < 5; i++) due("broken", real.broken(i), model.broken(i), i); break;
            case 24: { int i = pick(0, 6), w = pick(0, 2); due("pair", real.pair(i, w), model.pair(i, w), i, w); break; }
            case 25: case 26: { int n = pick(1, 30); due("plan", real.plan(n), model.plan(n), n); break; }
            case 27: due("least", real.least(), model.least()); break;
            case 28: due("tries", real.tries(), model.tries()); break;
            case 29: due("span", real.span(), model.span()); break;
            case 30: { int n = random.nextInt(4) == 0 ? pick(1, 50) : 1; due("better", real.better(n), model.better(n), n); break; }
            case 31: {
                int most = pick(0, 2);
                due("fewest", real.fewest(most), model.fewest(most), most);
                break;
            }
            default: stepMore(which); break;
        }
    }

    private void stepMore(int which) {
        switch (which) {
            case 32: {
                int b = random.nextInt(3) == 0 ? pick(0, 4095) : random.nextInt(1 << Math.min(12, model.count(0)));
                due("bound", real.bound(b), model.bound(b), b);
                break;
            }
            case 33: due("crowd", real.crowd(), model.crowd()); break;
            case 34: { int m = anyMast(); due("part", real.part(m), model.part(m), m); break; }
            case 35: due("image", real.image(), model.image()); break;
            case 36: due("restore", real.restore(), model.restore()); break;
            case 37: { int w = pick(0, 6); due("count", real.count(w), model.count(w), w); break; }
            case 38: { int m = anyMast(), w = pick(0, 7); due("look", real.look(m, w), model.look(m, w), m, w); break; }
            case 39: case 44: { int d = shelf(), w = pick(0, 4), k = anyMast(); due("keep", real.keep(d, w, k), model.keep(d, w, k), d, w, k); break; }
            case 40: {
                int d = shelf(), w = pick(3, 4), n = random.nextInt(3) == 0 ? pick(0, 60) : pick(0, 6);
                due("make", real.make(d, w, n), model.make(d, w, n), d, w, n);
                break;
            }
            case 41: case 47: element(shelf(), pick(0, 6)); break;
            case 42: case 45: case 46: {
                int d = shelf(), i = pick(0, 4), e = shelf(), j = pick(0, 4), n = pick(0, 4);
                due("copy", real.copy(d, i, e, j, n), model.copy(d, i, e, j, n), d, i, e, j, n);
                break;
            }
            default: {
                int d = shelf();
                due("weight", real.weight(d), model.weight(d), d);
                due("toss", real.toss(d), model.toss(d), d);
                break;
            }
        }
    }

    private void element(int d, int i) {
        long got = 0;
        long want = 0;
        try {
            got = real.element(d, i);
        } catch (IllegalArgumentException e) {
            got = Long.MIN_VALUE;
        } catch (IllegalStateException e) {
            got = Long.MAX_VALUE;
        }
        try {
            want = model.element(d, i);
        } catch (IllegalArgumentException e) {
            want = Long.MIN_VALUE;
        } catch (IllegalStateException e) {
            want = Long.MAX_VALUE;
        }
        due("element", got, want, d, i);
    }
}
