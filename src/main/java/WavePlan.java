import java.util.Arrays;

/** An office that gives masts their channels. The document's numbered promises say what each call answers. */
public final class WavePlan {
    private static final int CHANNELS = 30;
    private static final int ALL_CHANNELS = (1 << CHANNELS) - 1;
    private static final int MOST_GAP = 10;
    private static final int MOST_MASTS = 12;
    private static final int MOST_WANTS = 16;
    private static final int MOST_WANTS_OF_MAST = 3;
    private static final int MOST_ROWS = 8;
    private static final int MOST_SQUARE = 10000;
    private static final int MOST_PLACE = 60;
    private static final int PLACE_BASE = 64;
    private static final int MOST_POWER = 3;
    private static final int MOST_BAR = 4;
    private static final int MOST_OWN = 6;
    private static final int MOST_TRIES = 4000;
    private static final int MOST_BETTER = 50;
    private static final int MOST_FEWEST = 2;
    private static final int CROWD_WANTS = 6;
    private static final int SHELVES = 8;
    private static final int MOST_ELEMENTS = 60;

    /** Above every channel and every sum of bars. */
    private static final int BEYOND_ALL = 1000000;

    private static final int PLAIN = 0;
    private static final int PAIR = 1;
    private static final int OLD = 2;
    private static final int BORDER = 3;

    private static final int HELD_NOTHING = 0;
    private static final int HELD_MAST = 1;
    private static final int HELD_BYTES = 3;
    private static final int HELD_LONGS = 4;

    private static final int NO_SUM = -1;
    private static final int NO_LINE = -1;
    private static final int NO_IMAGE = -1;
    private static final int SUM_HARM = 5;
    private static final int STRAY_HARM = 10;

    private static final int REFUSED = -1;
    /** Both the mark of a WANT without a channel and the answer that tells of it. */
    private static final int NONE = -2;
    private static final int FULL = -2;
    private static final int SPENT = -2;
    private static final int NO_CROWD = -2;
    private static final int NOT_BY_SO_MANY = -2;
    private static final int NO_PLAN = -3;
    private static final int CROWD_TOO_LARGE = -3;
    private static final int NOTHING_HELD = -11;
    private static final int OTHER_KIND = -12;
    private static final int NO_PLACE = -13;
    private static final int BAD_SIZE = -14;
    private static final int NO_FAILURE = -15;

    private final Land land;
    private final Judge judge;
    private final Trier trier;
    private final Mender mender;
    private final Crowds crowds;
    private final Shelf[] shelves;
    private final int[] chosen;
    private final int[] imaged;
    private int imagedWants;

    public WavePlan() {
        land = new Land();
        judge = new Judge(land);
        trier = new Trier(land, judge);
        mender = new Mender(land, judge);
        crowds = new Crowds(land);
        shelves = new Shelf[SHELVES];
        for (int d = 0; d < SHELVES; d++) {
            shelves[d] = new Shelf();
        }
        chosen = new int[MOST_WANTS];
        imaged = new int[MOST_WANTS];
        Arrays.fill(chosen, NONE);
        Arrays.fill(imaged, NONE);
        imagedWants = NO_IMAGE;
    }

    public int mast(int kind, int place, int power, int wants) {
        if (!within(kind, PLAIN, BORDER) || !isPlace(place) || !within(power, 0, MOST_POWER)
                || !within(wants, 1, MOST_WANTS_OF_MAST)) {
            return REFUSED;
        }
        if (land.mastCount >= MOST_MASTS || land.wantCount + wants > MOST_WANTS) {
            return FULL;
        }
        return land.addMast(kind, place, power, wants);
    }

    public int move(int mast, int place) {
        if (!land.hasMast(mast) || !isPlace(place)) {
            return REFUSED;
        }
        return land.shift(mast, place);
    }

    public int list(int mast, int channels) {
        if (!land.hasMast(mast) || !within(channels, 0, ALL_CHANNELS)) {
            return REFUSED;
        }
        land.masts[mast].channels = channels;
        return Integer.bitCount(channels);
    }

    public int gap(int mast, int d) {
        if (!land.hasMast(mast) || land.masts[mast].kind != PAIR || !within(d, 1, MOST_GAP)) {
            return REFUSED;
        }
        int before = land.masts[mast].distance;
        land.masts[mast].distance = d;
        return before;
    }

    public int stay(int want, int channel) {
        if (!land.hasWant(want) || land.kindOfWant(want) != OLD || !within(channel, -1, CHANNELS - 1)) {
            return REFUSED;
        }
        land.told[want] = channel < 0 ? NONE : channel;
        return 0;
    }

    public int row(int limit, int power, int n) {
        if (!within(limit, 0, MOST_SQUARE) || !within(power, 0, 2 * MOST_POWER) || !within(n, 0, MOST_BAR)) {
            return REFUSED;
        }
        if (land.table.rows >= MOST_ROWS) {
            return FULL;
        }
        land.table.add(limit, power, n);
        land.measure();
        return land.table.rows;
    }

    public int own(int own, int sums) {
        if (!within(own, 0, MOST_OWN) || !within(sums, NO_SUM, MOST_SQUARE)) {
            return REFUSED;
        }
        land.ownBar = own;
        land.sumReach = sums;
        land.measure();
        return 0;
    }

    public int border(int line, int width, int first, int second) {
        if (!within(line, NO_LINE, MOST_PLACE) || !within(width, 0, MOST_PLACE)
                || !within(first, 0, ALL_CHANNELS) || !within(second, 0, ALL_CHANNELS)) {
            return REFUSED;
        }
        land.frontier.tell(line, width, first, second);
        return 0;
    }

    public int turn() {
        int before = judge.strayBits(chosen);
        land.frontier.swap();
        return Integer.bitCount(judge.strayBits(chosen) & ~before);
    }

    public int bar(int a, int b) {
        return land.hasMast(a) && land.hasMast(b) ? land.barOf(a, b) : REFUSED;
    }

    public int may(int want, int channel) {
        if (!land.hasWant(want)) {
            return REFUSED;
        }
        return within(channel, 0, CHANNELS - 1) ? land.allowed(want) >>> channel & 1 : 0;
    }

    public int set(int want, int channel) {
        if (!land.hasWant(want) || !within(channel, -1, CHANNELS - 1)) {
            return REFUSED;
        }
        int before = chosen[want];
        chosen[want] = channel < 0 ? NONE : channel;
        return before;
    }

    public int channel(int want) {
        return land.hasWant(want) ? chosen[want] : REFUSED;
    }

    public int of(int want) {
        return land.hasWant(want) ? land.mastOf[want] : REFUSED;
    }

    public int harm() {
        return judge.totalHarm(chosen);
    }

    public int kept() {
        return judge.served(chosen) == land.wantCount && judge.totalHarm(chosen) == 0 ? 1 : 0;
    }

    public int broken(int what) {
        switch (what) {
            case 0:
                return judge.lackingTwos(chosen);
            case 1:
                return judge.lacks(chosen);
            case 2:
                return judge.sums(chosen);
            case 3:
                return Integer.bitCount(judge.strayBits(chosen));
            default:
                return REFUSED;
        }
    }

    public int pair(int i, int what) {
        if (i < 0 || !within(what, 0, 2)) {
            return REFUSED;
        }
        int left = i;
        for (int u = 0; u < land.wantCount; u++) {
            for (int v = u + 1; v < land.wantCount; v++) {
                int lack = judge.lackOf(chosen, u, v);
                if (lack > 0 && left == 0) {
                    return what == 0 ? u : what == 1 ? v : lack;
                }
                left -= lack > 0 ? 1 : 0;
            }
        }
        return REFUSED;
    }

    public int plan(int n) {
        if (!within(n, 1, CHANNELS)) {
            return REFUSED;
        }
        trier.made = 0;
        int found = trier.search(n);
        if (found == 1) {
            trier.handOver(chosen);
        }
        return found;
    }

    public int tries() {
        return trier.made;
    }

    public int least() {
        trier.made = 0;
        for (int n = 1; n <= CHANNELS; n++) {
            int found = trier.search(n);
            if (found == SPENT) {
                return SPENT;
            }
            if (found == 1) {
                trier.handOver(chosen);
                return n;
            }
        }
        return NO_PLAN;
    }

    public int span() {
        int low = BEYOND_ALL;
        int high = NONE;
        for (int w = 0; w < land.wantCount; w++) {
            if (chosen[w] >= 0) {
                low = Math.min(low, chosen[w]);
                high = Math.max(high, chosen[w] + land.gapOf(w));
            }
        }
        return high < 0 ? NONE : high - low;
    }

    public int better(int n) {
        if (!within(n, 1, MOST_BETTER)) {
            return REFUSED;
        }
        int done = 0;
        while (done < n && mender.improve(chosen)) {
            done++;
        }
        return done;
    }

    public int fewest(int most) {
        if (!within(most, 0, MOST_FEWEST)) {
            return REFUSED;
        }
        if (judge.isClean(chosen)) {
            return 0;
        }
        if (most >= 1 && mender.changeOne(chosen)) {
            return 1;
        }
        if (most >= 2 && mender.changeTwo(chosen)) {
            return 2;
        }
        return NOT_BY_SO_MANY;
    }

    public int bound(int masts) {
        if (!within(masts, 1, (1 << land.mastCount) - 1)) {
            return REFUSED;
        }
        if (!crowds.isCrowd(masts)) {
            return NO_CROWD;
        }
        if (crowds.wantsOf(masts) > CROWD_WANTS) {
            return CROWD_TOO_LARGE;
        }
        return crowds.boundOf(masts);
    }

    public int crowd() {
        return crowds.greatest();
    }

    public int part(int mast) {
        return land.hasMast(mast) ? land.partOf(mast) : REFUSED;
    }

    public int image() {
        System.arraycopy(chosen, 0, imaged, 0, MOST_WANTS);
        imagedWants = land.wantCount;
        return judge.served(chosen);
    }

    public int restore() {
        if (imagedWants == NO_IMAGE) {
            return NONE;
        }
        int changed = 0;
        for (int w = 0; w < imagedWants && w < MOST_WANTS; w++) {
            changed += chosen[w] != imaged[w] ? 1 : 0;
            chosen[w] = imaged[w];
        }
        return changed;
    }

    public int count(int what) {
        switch (what) {
            case 0:
                return land.mastCount;
            case 1:
                return land.wantCount;
            case 2:
                return land.table.rows;
            case 3:
                return land.barredTwos();
            case 4:
                return land.threesIn();
            case 5:
                return land.parts();
            case 6:
                return judge.served(chosen);
            default:
                return REFUSED;
        }
    }

    public int look(int mast, int what) {
        return land.hasMast(mast) ? land.masts[mast].trait(what) : REFUSED;
    }

    public int keep(int d, int what, int k) {
        if (!isShelf(d)) {
            return REFUSED;
        }
        boolean needsMast = what == HELD_MAST || what == HELD_LONGS;
        if (needsMast && !land.hasMast(k)) {
            return REFUSED;
        }
        switch (what) {
            case HELD_NOTHING:
                shelves[d].clear();
                return 0;
            case HELD_MAST:
                shelves[d].takeMast(land.masts[k]);
                return 0;
            case HELD_BYTES:
                shelves[d].takeChannels(chosen, land.wantCount);
                return 0;
            case HELD_LONGS:
                shelves[d].takeSquares(land, k);
                return 0;
            default:
                return REFUSED;
        }
    }

    public int make(int d, int what, int n) {
        if (!isShelf(d) || what != HELD_BYTES && what != HELD_LONGS || n > MOST_ELEMENTS) {
            return REFUSED;
        }
        if (n < 0) {
            return BAD_SIZE;
        }
        shelves[d].takeZeros(what, n);
        return 0;
    }

    public long element(int d, int i) throws IllegalArgumentException, IllegalStateException {
        if (!isShelf(d)) {
            throw new IllegalArgumentException("no such shelf");
        }
        if (!shelves[d].isRow() || i < 0 || i >= shelves[d].length) {
            throw new IllegalStateException("no such element");
        }
        return shelves[d].at(i);
    }

    public int copy(int d, int i, int e, int j, int n) {
        if (!isShelf(d) || !isShelf(e)) {
            return REFUSED;
        }
        Shelf from = shelves[d];
        Shelf to = shelves[e];
        if (from.held == HELD_NOTHING || to.held == HELD_NOTHING) {
            return NOTHING_HELD;
        }
        if (!from.isRow() || from.held != to.held) {
            return OTHER_KIND;
        }
        if (!from.hasRange(i, n) || !to.hasRange(j, n)) {
            return NO_PLACE;
        }
        from.copyTo(i, to, j, n);
        return n;
    }

    public int weight(int d) {
        int refusal = refusalOfMast(d);
        return refusal < 0 ? refusal : shelves[d].mast.heaviness();
    }

    public int toss(int d) {
        int refusal = refusalOfMast(d);
        if (refusal < 0) {
            return refusal;
        }
        Mast mast = shelves[d].mast;
        try {
            mast.fail();
        } catch (IllegalStateException pairFailure) {
            return mast.number;
        } catch (IllegalArgumentException oldFailure) {
            return mast.number;
        } catch (UnsupportedOperationException borderFailure) {
            return mast.number;
        }
        return NO_FAILURE;
    }

    private int refusalOfMast(int d) {
        if (!isShelf(d)) {
            return REFUSED;
        }
        if (shelves[d].held == HELD_NOTHING) {
            return NOTHING_HELD;
        }
        return shelves[d].held == HELD_MAST ? 0 : OTHER_KIND;
    }

    private static boolean isShelf(int d) {
        return within(d, 0, SHELVES - 1);
    }

    private static boolean isPlace(int place) {
        return place >= 0 && place / PLACE_BASE <= MOST_PLACE && place % PLACE_BASE <= MOST_PLACE;
    }

    private static boolean within(int number, int low, int high) {
        return number >= low && number <= high;
    }

    /** One mast; all twelve are made at the start and filled as they come. */
    private static final class Mast {
        private int number;
        private int kind;
        private int x;
        private int y;
        private int strength;
        private int wants;
        private int firstWant;
        private int channels;
        private int distance;

        void begin(int asNumber, int asKind, int place, int power, int wantCount, int first) {
            number = asNumber;
            kind = asKind;
            goTo(place);
            strength = power;
            wants = wantCount;
            firstWant = first;
            channels = ALL_CHANNELS;
            distance = 5;
        }

        void goTo(int place) {
            x = place / PLACE_BASE;
            y = place % PLACE_BASE;
        }

        void takeAll(Mast other) {
            number = other.number;
            kind = other.kind;
            x = other.x;
            y = other.y;
            strength = other.strength;
            wants = other.wants;
            firstWant = other.firstWant;
            channels = other.channels;
            distance = other.distance;
        }

        int trait(int what) {
            switch (what) {
                case 0:
                    return kind;
                case 1:
                    return x;
                case 2:
                    return y;
                case 3:
                    return strength;
                case 4:
                    return wants;
                case 5:
                    return firstWant;
                case 6:
                    return Integer.bitCount(channels);
                case 7:
                    return kind == PAIR ? distance : NONE;
                default:
                    return REFUSED;
            }
        }

        int heaviness() {
            int plain = number + 5 * wants + strength;
            switch (kind) {
                case PAIR:
                    return plain + distance;
                case OLD:
                    return plain + 100;
                case BORDER:
                    return 2 * plain;
                default:
                    return plain;
            }
        }

        /** Ends without a throw only for PLAIN, which have no failure. */
        void fail() {
            switch (kind) {
                case PAIR:
                    throw new IllegalStateException("a pair failed");
                case OLD:
                    throw new IllegalArgumentException("an old one failed");
                case BORDER:
                    throw new UnsupportedOperationException("a border one failed");
                default:
                    break;
            }
        }
    }

    /** THE TABLE. */
    private static final class Table {
        private final int[] limits = new int[MOST_ROWS];
        private final int[] powers = new int[MOST_ROWS];
        private final int[] bars = new int[MOST_ROWS];
        private int rows;

        void add(int limit, int power, int n) {
            if (rows < MOST_ROWS) {
                limits[rows] = limit;
                powers[rows] = power;
                bars[rows] = n;
                rows++;
            }
        }

        int greatest(int square, int powersTogether) {
            int most = 0;
            for (int i = 0; i < rows; i++) {
                if (limits[i] >= square && powers[i] <= powersTogether) {
                    most = Math.max(most, bars[i]);
                }
            }
            return most;
        }
    }

    /** THE BORDER. */
    private static final class Frontier {
        private int line = NO_LINE;
        private int width;
        private int first;
        private int second;

        void tell(int toLine, int toWidth, int toFirst, int toSecond) {
            line = toLine;
            width = toWidth;
            first = toFirst;
            second = toSecond;
        }

        void swap() {
            int kept = first;
            first = second;
            second = kept;
        }

        int allows(Mast mast) {
            if (mast.kind != BORDER || line == NO_LINE || Math.abs(mast.x - line) > width) {
                return ALL_CHANNELS;
            }
            return mast.x < line ? first : second;
        }
    }

    /** The masts and all that bars and lists depend on. Sets of masts or channels are bits of an int. */
    private static final class Land {
        private final Mast[] masts = new Mast[MOST_MASTS];
        private final int[] mastOf = new int[MOST_WANTS];
        private final int[] told = new int[MOST_WANTS];
        private final Table table = new Table();
        private final Frontier frontier = new Frontier();
        private final int[] bars = new int[MOST_MASTS * MOST_MASTS];
        private final int[] near = new int[MOST_MASTS];
        private int mastCount;
        private int wantCount;
        private int ownBar = 2;
        private int sumReach = NO_SUM;

        Land() {
            for (int m = 0; m < MOST_MASTS; m++) {
                masts[m] = new Mast();
            }
            Arrays.fill(told, NONE);
        }

        boolean hasMast(int m) {
            return m >= 0 && m < mastCount;
        }

        boolean hasWant(int w) {
            return w >= 0 && w < wantCount;
        }

        int addMast(int kind, int place, int power, int wants) {
            int number = mastCount;
            masts[number].begin(number, kind, place, power, wants, wantCount);
            for (int i = 0; i < wants; i++) {
                mastOf[wantCount + i] = number;
            }
            mastCount++;
            wantCount += wants;
            measure();
            return number;
        }

        int shift(int m, int place) {
            masts[m].goTo(place);
            int others = 0;
            for (int b = 0; b < mastCount; b++) {
                others += barOf(m, b) != freshBar(m, b) ? 1 : 0;
            }
            measure();
            return others;
        }

        /** Bars and nearness are asked far more often than they change, so they are kept ready. */
        void measure() {
            for (int a = 0; a < mastCount; a++) {
                near[a] = 0;
                for (int b = 0; b < mastCount; b++) {
                    bars[a * MOST_MASTS + b] = freshBar(a, b);
                    near[a] |= a != b && square(a, b) <= sumReach ? 1 << b : 0;
                }
            }
        }

        private int freshBar(int a, int b) {
            return a == b ? ownBar : table.greatest(square(a, b), masts[a].strength + masts[b].strength);
        }

        int square(int a, int b) {
            int dx = masts[a].x - masts[b].x;
            int dy = masts[a].y - masts[b].y;
            return dx * dx + dy * dy;
        }

        int barOf(int a, int b) {
            return bars[a * MOST_MASTS + b];
        }

        int barOfWants(int u, int v) {
            return barOf(mastOf[u], mastOf[v]);
        }

        /** Whether sums reach from one want's mast to the other's; if not, no third want makes a sum with both. */
        boolean areNear(int u, int v) {
            return (near[mastOf[u]] >>> mastOf[v] & 1) != 0;
        }

        /** No mast is near itself, so three of which two are the same are not in. */
        boolean areIn(int a, int b, int c) {
            return (near[a] >>> b & near[a] >>> c & near[b] >>> c & 1) != 0;
        }

        int kindOfWant(int w) {
            return masts[mastOf[w]].kind;
        }

        /** D of a PAIR's want, 0 of others: the channels of a want on c are c and c + gapOf. */
        int gapOf(int w) {
            Mast mast = masts[mastOf[w]];
            return mast.kind == PAIR ? mast.distance : 0;
        }

        /** The channels that a want MAY have. */
        int allowed(int w) {
            Mast mast = masts[mastOf[w]];
            int bits = mast.channels & mast.channels >>> gapOf(w) & frontier.allows(mast);
            return told[w] == NONE ? bits : bits & 1 << told[w];
        }

        int barredTwos() {
            int twos = 0;
            for (int a = 0; a < mastCount; a++) {
                for (int b = a + 1; b < mastCount; b++) {
                    twos += barOf(a, b) > 0 ? 1 : 0;
                }
            }
            return twos;
        }

        int threesIn() {
            int threes = 0;
            for (int a = 0; a < mastCount; a++) {
                for (int b = a + 1; b < mastCount; b++) {
                    for (int c = b + 1; c < mastCount; c++) {
                        threes += areIn(a, b, c) ? 1 : 0;
                    }
                }
            }
            return threes;
        }

        int parts() {
            int found = 0;
            int seen = 0;
            for (int m = 0; m < mastCount; m++) {
                if ((seen >>> m & 1) == 0) {
                    seen |= partAround(m);
                    found++;
                }
            }
            return found;
        }

        int partOf(int mast) {
            int found = 0;
            int seen = 0;
            for (int m = 0; m < mast; m++) {
                if ((seen >>> m & 1) == 0) {
                    int part = partAround(m);
                    if ((part >>> mast & 1) != 0) {
                        return found;
                    }
                    seen |= part;
                    found++;
                }
            }
            return found;
        }

        private int partAround(int m) {
            int part = 1 << m;
            for (int round = 0; round < mastCount; round++) {
                int grown = part;
                for (int a = 0; a < mastCount; a++) {
                    grown |= (part >>> a & 1) != 0 ? joinedTo(a) : 0;
                }
                if (grown == part) {
                    return part;
                }
                part = grown;
            }
            return part;
        }

        private int joinedTo(int a) {
            int joined = 0;
            for (int b = 0; b < mastCount; b++) {
                boolean sumTogether = (near[a] >>> b & 1) != 0 && (near[a] & near[b]) != 0;
                joined |= a != b && (barOf(a, b) > 0 || sumTogether) ? 1 << b : 0;
            }
            return joined;
        }
    }

    /** What is BROKEN in a plan: an array with a channel, or NONE, for each want. */
    private static final class Judge {
        private final Land land;
        private final int[] cost = new int[CHANNELS];

        Judge(Land ofLand) {
            land = ofLand;
        }

        int served(int[] plan) {
            int wants = 0;
            for (int w = 0; w < land.wantCount; w++) {
                wants += plan[w] >= 0 ? 1 : 0;
            }
            return wants;
        }

        int totalHarm(int[] plan) {
            return lacks(plan) + SUM_HARM * sums(plan) + STRAY_HARM * Integer.bitCount(strayBits(plan));
        }

        int lackOf(int[] plan, int u, int v) {
            return plan[u] < 0 || plan[v] < 0 ? 0 : lackAt(u, plan[u], v, plan[v]);
        }

        private int lackAt(int u, int channelOfU, int v, int channelOfV) {
            int bar = land.barOfWants(u, v);
            if (bar == 0) {
                return 0;
            }
            int lack = 0;
            int gapU = land.gapOf(u);
            int gapV = land.gapOf(v);
            for (int x = channelOfU; x <= channelOfU + gapU; x += Math.max(1, gapU)) {
                for (int y = channelOfV; y <= channelOfV + gapV; y += Math.max(1, gapV)) {
                    lack = Math.max(lack, bar - Math.abs(x - y));
                }
            }
            return lack;
        }

        int lackingTwos(int[] plan) {
            int twos = 0;
            for (int u = 0; u < land.wantCount; u++) {
                for (int v = u + 1; v < land.wantCount; v++) {
                    twos += lackOf(plan, u, v) > 0 ? 1 : 0;
                }
            }
            return twos;
        }

        int lacks(int[] plan) {
            int together = 0;
            for (int u = 0; u < land.wantCount; u++) {
                for (int v = u + 1; v < land.wantCount; v++) {
                    together += lackOf(plan, u, v);
                }
            }
            return together;
        }

        int sums(int[] plan) {
            int found = 0;
            for (int u = 0; u < land.wantCount; u++) {
                for (int v = u + 1; v < land.wantCount; v++) {
                    int end = land.areNear(u, v) ? land.wantCount : 0;
                    for (int w = v + 1; w < end; w++) {
                        found += sumTogether(plan, u, v, w) ? sumsOfThree(plan, u, v, w) : 0;
                    }
                }
            }
            return found;
        }

        private boolean sumTogether(int[] plan, int u, int v, int w) {
            return plan[u] >= 0 && plan[v] >= 0 && plan[w] >= 0
                    && land.areIn(land.mastOf[u], land.mastOf[v], land.mastOf[w]);
        }

        private int sumsOfThree(int[] plan, int u, int v, int w) {
            int found = 0;
            int gapU = land.gapOf(u);
            int gapV = land.gapOf(v);
            int gapW = land.gapOf(w);
            for (int x = plan[u]; x <= plan[u] + gapU; x += Math.max(1, gapU)) {
                for (int y = plan[v]; y <= plan[v] + gapV; y += Math.max(1, gapV)) {
                    for (int z = plan[w]; z <= plan[w] + gapW; z += Math.max(1, gapW)) {
                        found += y + z == 2 * x ? 1 : 0;
                        found += x + z == 2 * y ? 1 : 0;
                        found += x + y == 2 * z ? 1 : 0;
                    }
                }
            }
            return found;
        }

        /** The wants, as bits, with a channel that they MAY not have. */
        int strayBits(int[] plan) {
            int bits = 0;
            for (int w = 0; w < land.wantCount; w++) {
                boolean stray = plan[w] >= 0 && (land.allowed(w) >>> plan[w] & 1) == 0;
                bits |= stray ? 1 << w : 0;
            }
            return bits;
        }

        /** Whether HARM is 0, found sooner than by its sum. */
        boolean isClean(int[] plan) {
            for (int w = 0; w < land.wantCount; w++) {
                if (plan[w] >= 0 && (freeChannels(plan, w, w) >>> plan[w] & 1) == 0) {
                    return false;
                }
            }
            return true;
        }

        /** The channels that a want MAY have and that break nothing with the others below upTo. */
        int freeChannels(int[] plan, int w, int upTo) {
            long taken = 0;
            for (int u = 0; u < upTo; u++) {
                if (u == w || plan[u] < 0) {
                    continue;
                }
                taken |= tooNear(plan, u, land.barOfWants(u, w));
                int end = land.areNear(u, w) ? upTo : 0;
                for (int v = u + 1; v < end; v++) {
                    if (v != w && sumMates(plan, u, v, w)) {
                        taken |= sumTargets(plan, u, v);
                    }
                }
            }
            return land.allowed(w) & (int) ~(taken | taken >>> land.gapOf(w));
        }

        private boolean sumMates(int[] plan, int u, int v, int w) {
            return plan[v] >= 0 && land.areIn(land.mastOf[u], land.mastOf[v], land.mastOf[w]);
        }

        private long tooNear(int[] plan, int u, int bar) {
            if (bar == 0) {
                return 0;
            }
            long bits = 0;
            int gap = land.gapOf(u);
            for (int x = plan[u]; x <= plan[u] + gap; x += Math.max(1, gap)) {
                int low = Math.max(0, x - bar + 1);
                bits |= (1L << x + bar) - (1L << low);
            }
            return bits;
        }

        private long sumTargets(int[] plan, int u, int v) {
            long bits = 0;
            int gapU = land.gapOf(u);
            int gapV = land.gapOf(v);
            for (int x = plan[u]; x <= plan[u] + gapU; x += Math.max(1, gapU)) {
                for (int y = plan[v]; y <= plan[v] + gapV; y += Math.max(1, gapV)) {
                    bits |= bitOf(2 * x - y) | bitOf(2 * y - x);
                    bits |= (x + y) % 2 == 0 ? bitOf((x + y) / 2) : 0;
                }
            }
            return bits;
        }

        private static long bitOf(int channel) {
            return channel >= 0 && channel < CHANNELS ? 1L << channel : 0;
        }

        /** For each channel the HARM that a want would have its share in, the others being as they are. */
        int[] weigh(int[] plan, int w) {
            int allowed = land.allowed(w);
            for (int c = 0; c < CHANNELS; c++) {
                cost[c] = (allowed >>> c & 1) == 0 ? STRAY_HARM : 0;
            }
            for (int u = 0; u < land.wantCount; u++) {
                if (u == w || plan[u] < 0) {
                    continue;
                }
                addLacks(plan, u, w);
                int end = land.areNear(u, w) ? land.wantCount : 0;
                for (int v = u + 1; v < end; v++) {
                    if (v != w && sumMates(plan, u, v, w)) {
                        addSums(plan, u, v, land.gapOf(w));
                    }
                }
            }
            return cost;
        }

        private void addLacks(int[] plan, int u, int w) {
            int reach = land.barOfWants(u, w) - 1;
            int low = Math.max(0, plan[u] - land.gapOf(w) - reach);
            int high = Math.min(CHANNELS - 1, plan[u] + land.gapOf(u) + reach);
            for (int c = low; c <= high; c++) {
                cost[c] += lackAt(u, plan[u], w, c);
            }
        }

        private void addSums(int[] plan, int u, int v, int gap) {
            int gapU = land.gapOf(u);
            int gapV = land.gapOf(v);
            for (int x = plan[u]; x <= plan[u] + gapU; x += Math.max(1, gapU)) {
                for (int y = plan[v]; y <= plan[v] + gapV; y += Math.max(1, gapV)) {
                    addSumAt(2 * x - y, gap);
                    addSumAt(2 * y - x, gap);
                    if ((x + y) % 2 == 0) {
                        addSumAt((x + y) / 2, gap);
                    }
                }
            }
        }

        private void addSumAt(int target, int gap) {
            if (within(target, 0, CHANNELS - 1)) {
                cost[target] += SUM_HARM;
            }
            if (gap > 0 && within(target - gap, 0, CHANNELS - 1)) {
                cost[target - gap] += SUM_HARM;
            }
        }
    }

    /** TRIES. */
    private static final class Trier {
        private final Land land;
        private final Judge judge;
        private final int[] trial = new int[MOST_WANTS];
        private final int[] next = new int[MOST_WANTS];
        private final int[] usable = new int[MOST_WANTS];
        private int made;

        Trier(Land ofLand, Judge ofJudge) {
            land = ofLand;
            judge = ofJudge;
        }

        /** 1, 0 or SPENT; the tries are counted on from those already made. */
        int search(int n) {
            if (land.wantCount == 0) {
                return 1;
            }
            int at = 0;
            open(at, n);
            // each step is a try or undoes one
            for (int step = 0; step <= 2 * MOST_TRIES + 1; step++) {
                if (next[at] >= n) {
                    at--;
                    if (at < 0) {
                        return 0;
                    }
                    continue;
                }
                if (made >= MOST_TRIES) {
                    return SPENT;
                }
                if (!takes(at)) {
                    continue;
                }
                at++;
                if (at >= land.wantCount) {
                    return 1;
                }
                open(at, n);
            }
            return SPENT;
        }

        void handOver(int[] plan) {
            System.arraycopy(trial, 0, plan, 0, land.wantCount);
        }

        /** What a want can take depends on those before it alone, so it is found once when it is reached. */
        private void open(int w, int n) {
            next[w] = 0;
            usable[w] = judge.freeChannels(trial, w, w) & below(n - land.gapOf(w));
            if (w > 0 && land.mastOf[w - 1] == land.mastOf[w]) {
                usable[w] &= ~below(trial[w - 1] + 1);
            }
        }

        private boolean takes(int w) {
            int channel = next[w];
            made++;
            next[w]++;
            trial[w] = channel;
            return (usable[w] >>> channel & 1) != 0;
        }

        private static int below(int n) {
            return n <= 0 ? 0 : n >= CHANNELS ? ALL_CHANNELS : (1 << n) - 1;
        }
    }

    /** BETTER, and changes as few as can be. */
    private static final class Mender {
        private final Land land;
        private final Judge judge;

        Mender(Land ofLand, Judge ofJudge) {
            land = ofLand;
            judge = ofJudge;
        }

        private boolean canChange(int[] plan, int w) {
            return plan[w] >= 0 && land.told[w] == NONE;
        }

        boolean improve(int[] plan) {
            int bestGain = 0;
            int bestWant = NONE;
            int bestChannel = NONE;
            for (int w = 0; w < land.wantCount; w++) {
                if (!canChange(plan, w)) {
                    continue;
                }
                int allowed = land.allowed(w);
                int[] cost = judge.weigh(plan, w);
                int now = cost[plan[w]];
                for (int c = 0; c < CHANNELS; c++) {
                    if ((allowed >>> c & 1) != 0 && now - cost[c] > bestGain) {
                        bestGain = now - cost[c];
                        bestWant = w;
                        bestChannel = c;
                    }
                }
            }
            if (bestWant < 0) {
                return false;
            }
            plan[bestWant] = bestChannel;
            return true;
        }

        /**
         * Wants without a channel are left out here and in changeTwo: they break nothing,
         * so a way that changes one would do without it and would not be the fewest.
         */
        boolean changeOne(int[] plan) {
            for (int w = 0; w < land.wantCount; w++) {
                if (!canChange(plan, w)) {
                    continue;
                }
                int before = plan[w];
                plan[w] = NONE;
                plan[w] = judge.isClean(plan) ? leastFree(plan, w, before) : NONE;
                if (plan[w] >= 0) {
                    return true;
                }
                plan[w] = before;
            }
            return false;
        }

        boolean changeTwo(int[] plan) {
            for (int u = 0; u < land.wantCount; u++) {
                for (int v = u + 1; v < land.wantCount; v++) {
                    if (canChange(plan, u) && canChange(plan, v) && changeBoth(plan, u, v)) {
                        return true;
                    }
                }
            }
            return false;
        }

        private boolean changeBoth(int[] plan, int u, int v) {
            int beforeU = plan[u];
            int beforeV = plan[v];
            plan[u] = NONE;
            plan[v] = NONE;
            int free = judge.isClean(plan) ? judge.freeChannels(plan, u, land.wantCount) & ~(1 << beforeU) : 0;
            for (int c = 0; c < CHANNELS; c++) {
                if ((free >>> c & 1) == 0) {
                    continue;
                }
                plan[u] = c;
                plan[v] = leastFree(plan, v, beforeV);
                if (plan[v] >= 0) {
                    return true;
                }
            }
            plan[u] = beforeU;
            plan[v] = beforeV;
            return false;
        }

        private int leastFree(int[] plan, int w, int before) {
            int free = judge.freeChannels(plan, w, land.wantCount) & ~(1 << before);
            for (int c = 0; c < CHANNELS; c++) {
                if ((free >>> c & 1) != 0) {
                    return c;
                }
            }
            return NONE;
        }
    }

    /** Bounds by crowds. */
    private static final class Crowds {
        private final Land land;
        /** For each set of seats and the seat that stands last, the least sum of bars of an order. */
        private final int[] sums = new int[(1 << CROWD_WANTS) * CROWD_WANTS];
        private final int[] seats = new int[CROWD_WANTS];
        private int best;
        private int bestBound;

        Crowds(Land ofLand) {
            land = ofLand;
        }

        boolean isCrowd(int masts) {
            for (int a = 0; a < land.mastCount; a++) {
                if ((masts >>> a & 1) != 0 && !barsAll(a, masts & ~(1 << a))) {
                    return false;
                }
            }
            return true;
        }

        private boolean barsAll(int a, int masts) {
            for (int b = 0; b < land.mastCount; b++) {
                if ((masts >>> b & 1) != 0 && land.barOf(a, b) == 0) {
                    return false;
                }
            }
            return true;
        }

        int wantsOf(int masts) {
            int wants = 0;
            for (int m = 0; m < land.mastCount; m++) {
                wants += (masts >>> m & 1) != 0 ? land.masts[m].wants : 0;
            }
            return wants;
        }

        int boundOf(int masts) {
            int seated = 0;
            for (int m = 0; m < land.mastCount; m++) {
                if ((masts >>> m & 1) != 0) {
                    seated = seat(m, seated);
                }
            }
            return boundOfSeated(seated);
        }

        int greatest() {
            best = 0;
            bestBound = -1;
            grow(0, 0, 0);
            return best;
        }

        /** Each level adds one mast with a want or more, so it goes no deeper than CROWD_WANTS. */
        private void grow(int masts, int from, int seated) {
            for (int m = from; m < land.mastCount; m++) {
                if (seated + land.masts[m].wants > CROWD_WANTS || !barsAll(m, masts)) {
                    continue;
                }
                int more = masts | 1 << m;
                int now = seat(m, seated);
                consider(more, boundOfSeated(now));
                grow(more, m + 1, now);
            }
        }

        private void consider(int masts, int bound) {
            if (bound > bestBound || bound == bestBound && masts < best) {
                bestBound = bound;
                best = masts;
            }
        }

        /** Puts a mast's wants behind those that sit; sums of sets without them stay as they are. */
        private int seat(int m, int seated) {
            int now = seated;
            for (int i = 0; i < land.masts[m].wants && now < CROWD_WANTS; i++) {
                seats[now] = m;
                for (int set = 1 << now; set < 2 << now; set++) {
                    sumUp(set, now);
                }
                now++;
            }
            return now;
        }

        private void sumUp(int set, int topSeat) {
            for (int last = 0; last <= topSeat; last++) {
                if ((set >>> last & 1) != 0) {
                    sums[set * CROWD_WANTS + last] = leastSum(set & ~(1 << last), last, topSeat);
                }
            }
        }

        private int leastSum(int before, int last, int topSeat) {
            if (before == 0) {
                return 0;
            }
            int least = BEYOND_ALL;
            for (int s = 0; s <= topSeat; s++) {
                if ((before >>> s & 1) != 0) {
                    least = Math.min(least, sums[before * CROWD_WANTS + s] + land.barOf(seats[s], seats[last]));
                }
            }
            return least;
        }

        private int boundOfSeated(int seated) {
            int full = (1 << seated) - 1;
            int least = BEYOND_ALL;
            for (int last = 0; last < seated; last++) {
                least = Math.min(least, sums[full * CROWD_WANTS + last]);
            }
            return least;
        }
    }

    /** A SHELF; its rows are made once, at their greatest length. */
    private static final class Shelf {
        private final Mast mast = new Mast();
        private final byte[] bytes = new byte[MOST_ELEMENTS];
        private final long[] longs = new long[MOST_ELEMENTS];
        private int held = HELD_NOTHING;
        private int length;

        void clear() {
            held = HELD_NOTHING;
            length = 0;
        }

        void takeMast(Mast other) {
            held = HELD_MAST;
            length = 0;
            mast.takeAll(other);
        }

        void takeChannels(int[] plan, int wants) {
            held = HELD_BYTES;
            length = wants;
            for (int w = 0; w < wants; w++) {
                bytes[w] = (byte) plan[w];
            }
        }

        void takeSquares(Land land, int m) {
            held = HELD_LONGS;
            length = land.mastCount;
            for (int b = 0; b < land.mastCount; b++) {
                longs[b] = land.square(m, b);
            }
        }

        void takeZeros(int what, int n) {
            held = what;
            length = n;
            Arrays.fill(bytes, (byte) 0);
            Arrays.fill(longs, 0L);
        }

        boolean isRow() {
            return held == HELD_BYTES || held == HELD_LONGS;
        }

        boolean hasRange(int from, int n) {
            return n >= 0 && from >= 0 && from <= length && n <= length - from;
        }

        long at(int i) {
            return held == HELD_BYTES ? bytes[i] : longs[i];
        }

        void copyTo(int i, Shelf to, int j, int n) {
            if (held == HELD_BYTES) {
                System.arraycopy(bytes, i, to.bytes, j, n);
            } else {
                System.arraycopy(longs, i, to.longs, j, n);
            }
        }
    }
}
