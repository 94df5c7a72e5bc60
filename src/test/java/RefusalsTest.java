import java.util.function.Supplier;
import java.util.function.ToLongFunction;

/** The order of refusals, that a refused call changes nothing, and that calls that only ask change nothing. */
public final class RefusalsTest extends Offices {
    public static void main(String[] args) {
        Sentences terms = new Sentences(CHECK, "Terms");
        terms.says("Answers of several refusals are the first one here: -1 no such thing, a number out of range, or not as told",
                        RefusalsTest::firstOfSeveral)
                .says("-2, -3, -4, -11 to -15 as told.", RefusalsTest::laterOfSeveral)
                .says("A refused call changes nothing.", RefusalsTest::refusedInAnOffice);
        CHECK.about("A refused call changes nothing, in a full office");
        refusedInAFullOffice();
        CHECK.about("A refused call changes nothing, in an empty office");
        refusedInAnEmptyOffice();
        CHECK.about("What only asks changes nothing");
        askedInAnOffice();
        CHECK.about("");
        new Sentences(CHECK, "What it is").says("An object is used for at most 512 calls after it has been made",
                RefusalsTest::fiveHundredCalls);
        CHECK.finish();
    }

    private static void firstOfSeveral() {
        WavePlan full = full();
        due("kind before full", full.mast(4, 0, 0, 1), -1);
        due("place before full", full.mast(0, -1, 0, 1), -1);
        due("power before full", full.mast(0, 0, 4, 1), -1);
        due("wants before full", full.mast(0, 0, 0, 4), -1);
        due("limit before full", full.row(-1, 0, 0), -1);
        due("power of a row before full", full.row(0, 7, 0), -1);
        due("n before full", full.row(0, 0, 5), -1);
        WavePlan x = office();
        // 0 and 3 have no bar, 6 isn't there
        due("not there before no crowd", x.bound(0b1001001), -1);
        due("a shelf before a size", x.make(8, 3, -1), -1);
        due("a kind before a size", x.make(0, 2, -1), -1);
        due("a shelf before nothing", x.copy(7, 0, 8, 0, 1), -1);
        due("a shelf before another kind", x.copy(-1, 0, 0, 0, 1), -1);
        due("a shelf before a place", x.copy(8, -1, 2, -1, -1), -1);
        due("a shelf before an element", thrown(x, 8, -1), 1);
    }

    private static void laterOfSeveral() {
        WavePlan x = office();
        // masts 0, 1, 2, 3 have 9 wants, and 0 and 3 have no bar
        due("no crowd before too many", x.bound(0b1111), -2);
        due("nothing before another kind", x.copy(7, 0, 0, 0, 1), -11);
        due("nothing before another kind, to it", x.copy(0, 0, 7, 0, 1), -11);
        due("nothing before a place", x.copy(7, -1, 2, -1, -1), -11);
        due("another kind before a place", x.copy(2, -1, 3, -1, -1), -12);
        due("a mast before a place", x.copy(0, 99, 0, 99, 99), -12);
    }

    /** Masts of all kinds, rows, sums, a border, a plan with harm of each kind, an image, and full shelves. */
    private static WavePlan office() {
        WavePlan x = new WavePlan();
        x.row(4, 0, 2);
        x.row(1, 2, 3);
        x.own(3, 8);
        x.mast(PLAIN, at(10, 10), 1, 2);
        x.mast(PAIR, at(11, 10), 2, 2);
        x.mast(OLD, at(12, 10), 0, 3);
        x.mast(BORDER, at(10, 20), 3, 2);
        x.mast(BORDER, at(13, 20), 3, 1);
        x.list(0, ALL & ~only(3));
        x.gap(1, 4);
        x.stay(5, 8);
        x.border(12, 3, only(1, 2, 3), only(2, 3, 4));
        x.plan(30);
        setAll(x, 3, 5, 4, 29, -1, 9, 7, 1, 2, 4);
        x.image();
        setAll(x, 3, 5, 4, 28, 6);
        x.keep(0, 1, 1);
        x.keep(1, 1, 0);
        x.keep(2, 3, 0);
        x.keep(3, 4, 2);
        x.make(4, 3, 3);
        x.make(5, 4, 0);
        return x;
    }

    private static WavePlan full() {
        WavePlan x = line(12);
        for (int i = 0; i < 8; i++) {
            x.row(i, 0, i % 5);
        }
        return x;
    }

    /** All that can be asked of an office of at most 5 masts, 10 wants and 10 twos, in fewer than 500 calls. */
    private static String stateOf(WavePlan x) {
        StringBuilder s = new StringBuilder();
        for (int what = 0; what <= 6; what++) {
            s.append(x.count(what)).append(' ');
        }
        for (int m = 0; m < x.count(0) && m < 5; m++) {
            for (int what = 0; what <= 7; what++) {
                s.append(x.look(m, what)).append(' ');
            }
            s.append(x.part(m)).append(' ').append(x.bar(0, m)).append(' ').append(x.bar(m, m)).append('\n');
        }
        for (int w = 0; w < x.count(1) && w < 10; w++) {
            s.append(x.channel(w)).append(' ').append(x.of(w)).append(" may");
            for (int c = 0; c < 30; c += w == 5 ? 1 : 2) {
                s.append(x.may(w, c));
            }
            s.append('\n');
        }
        for (int what = 0; what <= 3; what++) {
            s.append(x.broken(what)).append(' ');
        }
        s.append(x.harm()).append(' ').append(x.kept()).append(' ').append(x.span()).append(' ').append(x.tries());
        for (int i = 0; i < 10; i++) {
            s.append(' ').append(x.pair(i, 0)).append(' ').append(x.pair(i, 1)).append(' ').append(x.pair(i, 2));
        }
        return s.append('\n').append(shelvesOf(x)).append(hiddenOf(x)).toString();
    }

    private static String shelvesOf(WavePlan x) {
        StringBuilder s = new StringBuilder();
        for (int d = 0; d < 8; d++) {
            s.append(x.weight(d)).append(' ').append(x.toss(d)).append(" row");
            for (int i = 0; thrown(x, d, i) == 0; i++) {
                s.append(' ').append(x.element(d, i));
            }
            s.append('\n');
        }
        return s.toString();
    }

    /** What can't be seen without a change: it comes last. */
    private static String hiddenOf(WavePlan x) {
        return x.crowd() + " turn " + x.turn() + " " + x.harm() + " restore " + x.restore() + " " + x.harm() + " " + x.span();
    }

    private static void unchanged(String call, Supplier<WavePlan> made, ToLongFunction<WavePlan> asked, long want) {
        WavePlan x = made.get();
        due(call, asked.applyAsLong(x), want);
        CHECK.isTrue(call + " changes nothing", stateOf(x).equals(stateOf(made.get())));
    }

    private static void refused(String call, ToLongFunction<WavePlan> asked, long want) {
        unchanged(call, RefusalsTest::office, asked, want);
    }

    private static void refusedInAnOffice() {
        refusedOfMasts();
        refusedOfRules();
        refusedOfPlans();
        refusedOfShelves();
    }

    private static void refusedOfMasts() {
        refused("mast(4)", x -> x.mast(4, 0, 0, 1), -1);
        refused("mast(-1)", x -> x.mast(-1, 0, 0, 1), -1);
        refused("mast at y 61", x -> x.mast(0, 61, 0, 1), -1);
        refused("mast of power 4", x -> x.mast(0, 0, 4, 1), -1);
        refused("mast without wants", x -> x.mast(0, 0, 0, 0), -1);
        refused("move of none", x -> x.move(5, 0), -1);
        refused("move of -1", x -> x.move(-1, 0), -1);
        refused("move to nowhere", x -> x.move(0, at(61, 0)), -1);
        refused("list of none", x -> x.list(5, 0), -1);
        refused("list of -1", x -> x.list(-1, 0), -1);
        refused("list of 31 bits", x -> x.list(0, ALL + 1), -1);
        refused("list below", x -> x.list(0, MIN), -1);
        refused("gap of none", x -> x.gap(5, 3), -1);
        refused("gap of -1", x -> x.gap(-1, 3), -1);
        refused("gap of a plain one", x -> x.gap(0, 3), -1);
        refused("gap of an old one", x -> x.gap(2, 3), -1);
        refused("gap of a border one", x -> x.gap(3, 3), -1);
        refused("gap 0", x -> x.gap(1, 0), -1);
        refused("gap 11", x -> x.gap(1, 11), -1);
        refused("stay of none", x -> x.stay(10, 3), -1);
        refused("stay of -1", x -> x.stay(-1, 3), -1);
        refused("stay of a plain one", x -> x.stay(0, 3), -1);
        refused("stay of a pair", x -> x.stay(2, 3), -1);
        refused("stay of a border one", x -> x.stay(9, 3), -1);
        refused("stay on 30", x -> x.stay(5, 30), -1);
        refused("stay on -2", x -> x.stay(5, -2), -1);
    }

    private static void refusedOfRules() {
        refused("row of limit -1", x -> x.row(-1, 0, 4), -1);
        refused("row of limit 10001", x -> x.row(10001, 0, 4), -1);
        refused("row of power -1", x -> x.row(10000, -1, 4), -1);
        refused("row of power 7", x -> x.row(10000, 7, 4), -1);
        refused("row of n -1", x -> x.row(10000, 0, -1), -1);
        refused("row of n 5", x -> x.row(10000, 0, 5), -1);
        refused("own -1", x -> x.own(-1, 100), -1);
        refused("own 7", x -> x.own(7, 100), -1);
        refused("sums -2", x -> x.own(1, -2), -1);
        refused("sums 10001", x -> x.own(1, 10001), -1);
        refused("line -2", x -> x.border(-2, 60, 0, 0), -1);
        refused("line 61", x -> x.border(61, 60, 0, 0), -1);
        refused("width -1", x -> x.border(12, -1, 0, 0), -1);
        refused("width 61", x -> x.border(12, 61, 0, 0), -1);
        refused("first set of 31 bits", x -> x.border(12, 60, ALL + 1, 0), -1);
        refused("first set below", x -> x.border(12, 60, -1, 0), -1);
        refused("second set of 31 bits", x -> x.border(12, 60, 0, ALL + 1), -1);
        refused("second set below", x -> x.border(12, 60, 0, -1), -1);
    }

    private static void refusedOfPlans() {
        refused("set of none", x -> x.set(10, 3), -1);
        refused("set of -1", x -> x.set(-1, 3), -1);
        refused("set on 30", x -> x.set(0, 30), -1);
        refused("set on -2", x -> x.set(0, -2), -1);
        refused("plan(0)", x -> x.plan(0), -1);
        refused("plan(31)", x -> x.plan(31), -1);
        refused("plan(-1)", x -> x.plan(-1), -1);
        refused("better(0)", x -> x.better(0), -1);
        refused("better(51)", x -> x.better(51), -1);
        refused("fewest(-1)", x -> x.fewest(-1), -1);
        refused("fewest(3)", x -> x.fewest(3), -1);
        refused("fewest(0) with harm", x -> x.fewest(0), -2);
        refused("fewest(2) with more harm", x -> x.fewest(2), -2);
        refused("bound(0)", x -> x.bound(0), -1);
        refused("bound of one not there", x -> x.bound(1 << 5), -1);
        refused("bound of no crowd", x -> x.bound(0b1001), -2);
        refused("bound of seven", x -> x.bound(0b111), -3);
    }

    private static void refusedOfShelves() {
        refused("keep on 8", x -> x.keep(8, 0, 0), -1);
        refused("keep on -1", x -> x.keep(-1, 0, 0), -1);
        refused("keep of -1", x -> x.keep(0, -1, 0), -1);
        refused("keep of 2", x -> x.keep(0, 2, 0), -1);
        refused("keep of 5", x -> x.keep(0, 5, 0), -1);
        refused("keep of no mast", x -> x.keep(0, 1, 5), -1);
        refused("keep of mast -1", x -> x.keep(0, 1, -1), -1);
        refused("keep of no squares", x -> x.keep(0, 4, 5), -1);
        refused("keep of squares of -1", x -> x.keep(0, 4, -1), -1);
        refused("make on 8", x -> x.make(8, 3, 1), -1);
        refused("make on -1", x -> x.make(-1, 3, 1), -1);
        refused("make of 2", x -> x.make(2, 2, 1), -1);
        refused("make of 5", x -> x.make(2, 5, 1), -1);
        refused("make of 61", x -> x.make(2, 3, 61), -1);
        refused("make of -1", x -> x.make(2, 3, -1), -14);
        refused("element of nothing", x -> thrown(x, 7, 0), 2);
        refused("element of a mast", x -> thrown(x, 0, 0), 2);
        refused("element of 8", x -> thrown(x, 8, 0), 1);
        refused("copy to nothing", x -> x.copy(2, 0, 7, 0, 1), -11);
        refused("copy to a mast", x -> x.copy(2, 0, 0, 0, 1), -12);
        refused("copy to longs", x -> x.copy(2, 0, 3, 0, 1), -12);
        refused("copy beyond the first's end", x -> x.copy(4, 1, 2, 0, 3), -13);
        refused("copy beyond the second's end", x -> x.copy(2, 0, 4, 1, 3), -13);
        refused("copy of -1", x -> x.copy(2, 0, 4, 0, -1), -13);
        refused("copy from -1", x -> x.copy(2, -1, 4, 0, 2), -13);
        refused("copy to -1", x -> x.copy(2, 0, 4, -1, 2), -13);
        refused("weight of nothing", x -> x.weight(7), -11);
        refused("toss of a plain one", x -> x.toss(1), -15);
    }

    private static void refusedInAFullOffice() {
        unchanged("a thirteenth mast", RefusalsTest::full, x -> x.mast(1, 0, 3, 1), -2);
        unchanged("a ninth row", RefusalsTest::full, x -> x.row(10000, 0, 4), -2);
        WavePlan x = full();
        x.mast(0, 0, 0, 1);
        due("no want came", x.of(12), -1);
        due("none of it", x.count(1), 12);
        WavePlan wants = new WavePlan();
        for (int m = 0; m < 5; m++) {
            wants.mast(0, 0, 0, 3);
        }
        due("17 wants", wants.mast(1, 0, 0, 2), -2);
        due("no mast came", wants.count(0), 5);
        due("no want came", wants.of(15), -1);
        due("16 wants", wants.mast(0, 0, 0, 1), 5);
        due("its own", wants.of(15), 5);
    }

    private static void refusedInAnEmptyOffice() {
        unchanged("move", WavePlan::new, x -> x.move(0, 0), -1);
        unchanged("list", WavePlan::new, x -> x.list(0, 0), -1);
        unchanged("gap", WavePlan::new, x -> x.gap(0, 1), -1);
        unchanged("stay", WavePlan::new, x -> x.stay(0, 1), -1);
        unchanged("bar", WavePlan::new, x -> x.bar(0, 0), -1);
        unchanged("may", WavePlan::new, x -> x.may(0, 0), -1);
        unchanged("set", WavePlan::new, x -> x.set(0, 0), -1);
        unchanged("channel", WavePlan::new, x -> x.channel(0), -1);
        unchanged("of", WavePlan::new, x -> x.of(0), -1);
        unchanged("pair", WavePlan::new, x -> x.pair(0, 0), -1);
        unchanged("bound", WavePlan::new, x -> x.bound(1), -1);
        unchanged("part", WavePlan::new, x -> x.part(0), -1);
        unchanged("restore", WavePlan::new, WavePlan::restore, -2);
        unchanged("look", WavePlan::new, x -> x.look(0, 0), -1);
        unchanged("keep of a mast", WavePlan::new, x -> x.keep(0, 1, 0), -1);
        unchanged("keep of squares", WavePlan::new, x -> x.keep(0, 4, 0), -1);
    }

    private static void askedInAnOffice() {
        refused("crowd", WavePlan::crowd, office().crowd());
        refused("bound", x -> x.bound(0b11), office().bound(0b11));
        refused("harm", WavePlan::harm, office().harm());
        refused("two turns", x -> x.turn() * 0 + x.turn() * 0, 0);
        refused("a move to where it is", x -> x.move(1, at(11, 10)), 0);
    }

    /** The dearest calls and the cheap ones by turns: the 512th is answered like the first. */
    private static void fiveHundredCalls() {
        WavePlan x = new WavePlan();
        x.row(10000, 0, 1);
        x.own(2, 10000);
        for (int i = 0; i < 12; i++) {
            x.mast(i % 4, at(5 * i, i), i % 4, i < 4 ? 2 : 1);
        }
        int calls = 14;
        int least = x.least();
        int tries = x.tries();
        calls += 2;
        while (calls + 4 <= 511) {
            due("least again", x.least(), least);
            x.better(50);
            x.fewest(2);
            x.crowd();
            calls += 4;
        }
        while (calls < 511) {
            x.turn();
            calls++;
        }
        due("the 512th", x.tries(), tries);
    }
}
