/** What the hand-worked tests share: small offices, and checks of their answers. */
abstract class Offices {
    static final int ALL = (1 << 30) - 1;
    static final int MIN = Integer.MIN_VALUE;
    static final int MAX = Integer.MAX_VALUE;
    static final int PLAIN = 0;
    static final int PAIR = 1;
    static final int OLD = 2;
    static final int BORDER = 3;
    static final Check CHECK = new Check();

    static void due(String call, long got, long want) {
        CHECK.due(call, got, want);
    }

    static int at(int x, int y) {
        return 64 * x + y;
    }

    /** A list or set of channels, as bits. */
    static int only(int... channels) {
        int bits = 0;
        for (int c : channels) {
            bits |= 1 << c;
        }
        return bits;
    }

    /** The channels 0 .. n - 1, as bits. */
    static int first(int n) {
        return (1 << n) - 1;
    }

    /** Plain masts, one want each, side by side at x = 0, 1, 2, .. */
    static WavePlan line(int masts) {
        WavePlan x = new WavePlan();
        for (int i = 0; i < masts; i++) {
            x.mast(PLAIN, at(i, 0), 0, 1);
        }
        return x;
    }

    /** Masts of these kinds, one want each, all at place 0, 0. */
    static WavePlan heap(int... kinds) {
        WavePlan x = new WavePlan();
        for (int kind : kinds) {
            x.mast(kind, 0, 0, 1);
        }
        return x;
    }

    static void setAll(WavePlan x, int... channels) {
        for (int w = 0; w < channels.length; w++) {
            x.set(w, channels[w]);
        }
    }

    static void dueChannels(String when, WavePlan x, int... channels) {
        for (int w = 0; w < channels.length; w++) {
            due(when + " channel(" + w + ")", x.channel(w), channels[w]);
        }
    }

    /** What element throws: 1 IllegalArgumentException, 2 IllegalStateException, 0 nothing. */
    static int thrown(WavePlan x, int d, int i) {
        try {
            x.element(d, i);
            return 0;
        } catch (IllegalArgumentException e) {
            return 1;
        } catch (IllegalStateException e) {
            return 2;
        }
    }

    static void dueRow(String when, WavePlan x, int d, long... elements) {
        for (int i = 0; i < elements.length; i++) {
            due(when + " throws at " + i, thrown(x, d, i), 0);
            due(when + " element(" + d + ", " + i + ")", x.element(d, i), elements[i]);
        }
        due(when + " ends", thrown(x, d, elements.length), 2);
    }
}
