import java.util.HashSet;
import java.util.Set;

/** The sentences of the promises that name a boundary case; the answers are worked out by hand. */
public final class EdgesTest extends Offices {
    private static final Set<String> SAID = new HashSet<>();

    public static void main(String[] args) {
        sayMasts();
        sayRules();
        sayPlan();
        sayBroken();
        sayTries();
        sayChanges();
        sayCrowds();
        sayImages();
        sayShelves();
        due("promises with a test", SAID.size(), Sentences.promises());
        CHECK.finish();
    }

    private static Sentences promise(String title) {
        SAID.add(title);
        return new Sentences(CHECK, "Promise " + title);
    }

    private static void sayMasts() {
        promise("1: A new object").says("No MASTS, no ROWS, an empty PLAN.", EdgesTest::newObject);
        promise("2: mast").says("A MAST at place x, y (told as 64 x + y): its number.", EdgesTest::placeOfMast)
                .says("-2: there are 12, or more than 16 WANTS would be.", EdgesTest::fullOfMasts);
        promise("3: move").says("A MAST goes to a place", EdgesTest::moveTakesAllAlong)
                .says("how many BARS of it are others now than before (of OWN none).", EdgesTest::barsThatAreOthers)
                .says("-1.", EdgesTest::moveRefused);
        promise("4: list").says("The LIST of a MAST (30 bits): how many channels.", EdgesTest::listOfBits)
                .says("-1.", EdgesTest::listRefused);
        promise("5: gap").says("D of a PAIR: the one before.", EdgesTest::gapBefore)
                .says("-1.", EdgesTest::gapRefused);
        promise("6: stay").says("is told to stay on a channel (-1: on none): 0.", EdgesTest::stayOrNot)
                .says("-1.", EdgesTest::stayRefused);
    }

    private static void newObject() {
        WavePlan used = heap(PAIR, OLD, BORDER);
        used.row(0, 0, 4);
        used.own(6, 0);
        used.least();
        used.image();
        used.keep(0, 1, 0);
        WavePlan x = new WavePlan();
        for (int what = 0; what <= 6; what++) {
            due("count(" + what + ")", x.count(what), 0);
        }
        due("no mast", x.look(0, 0), -1);
        due("no want", x.channel(0), -1);
        due("no harm", x.harm(), 0);
        due("no channel", x.span(), -2);
        due("no tries", x.tries(), 0);
        due("no image", x.restore(), -2);
        due("nothing held", x.weight(0), -11);
        due("the first row", x.row(0, 0, 1), 1);
        due("the first mast", x.mast(0, 0, 0, 1), 0);
        due("own", x.bar(0, 0), 2);
    }

    private static void placeOfMast() {
        WavePlan x = new WavePlan();
        int[][] places = {{0, 0}, {0, 1}, {1, 0}, {0, 60}, {1, 60}, {60, 0}, {60, 60}, {33, 44}};
        for (int m = 0; m < places.length; m++) {
            due("its number", x.mast(0, 64 * places[m][0] + places[m][1], 0, 1), m);
            due("x", x.look(m, 1), places[m][0]);
            due("y", x.look(m, 2), places[m][1]);
        }
        due("the place behind y 60", x.mast(0, 61, 0, 1), -1);
        due("the place before x 1", x.mast(0, 63, 0, 1), -1);
        due("the place behind all", x.mast(0, 64 * 60 + 61, 0, 1), -1);
        due("the place before all", x.mast(0, -1, 0, 1), -1);
        due("refused ones have no number", x.mast(0, 64, 0, 1), 8);
    }

    private static void fullOfMasts() {
        WavePlan x = line(11);
        due("the twelfth", x.mast(0, 0, 0, 3), 11);
        due("14 wants", x.count(1), 14);
        due("a thirteenth, though 15 wants would be", x.mast(0, 0, 0, 1), -2);
        WavePlan y = new WavePlan();
        for (int m = 0; m < 4; m++) {
            y.mast(0, 0, 0, 3);
        }
        y.mast(0, 0, 0, 2);
        due("17 would be of 14", y.mast(0, 0, 0, 3), -2);
        due("16 of 14", y.mast(0, 0, 0, 2), 5);
        due("17 would be of 16", y.mast(0, 0, 0, 1), -2);
        WavePlan z = new WavePlan();
        for (int m = 0; m < 12; m++) {
            due("12 masts with 16 wants", z.mast(0, 0, 0, m < 4 ? 2 : 1), m);
        }
        due("16", z.count(1), 16);
        due("one too many of both", z.mast(0, 0, 0, 1), -2);
    }

    private static void moveTakesAllAlong() {
        WavePlan x = new WavePlan();
        x.mast(BORDER, at(5, 0), 0, 1);
        x.mast(PLAIN, at(5, 0), 0, 1);
        x.mast(PLAIN, at(5, 0), 0, 1);
        x.border(6, 1, only(0), only(1));
        x.own(2, 4);
        x.row(4, 0, 1);
        setAll(x, 0, 0, 0);
        x.keep(0, 4, 0);
        due("to x 6", x.move(0, at(6, 0)), 0);
        due("of the second half now", x.may(0, 1), 1);
        due("so its channel may not be", x.broken(3), 1);
        due("its channel stays", x.channel(0), 0);
        due("still in", x.count(4), 1);
        due("to 60, 60", x.move(0, at(60, 60)), 2);
        due("x", x.look(0, 1), 60);
        due("y", x.look(0, 2), 60);
        due("not in any more", x.count(4), 0);
        due("a part of its own", x.part(1), 1);
        due("beyond the border", x.may(0, 5), 1);
        dueRow("the row stays", x, 0, 0, 0, 0);
    }

    private static void barsThatAreOthers() {
        WavePlan x = line(12);
        x.row(0, 0, 4);
        x.row(3, 0, 3);
        x.row(15, 0, 1);
        due("to where it is", x.move(0, at(0, 0)), 0);
        // of 0, before: 1 has 3; 2 and 3 have 1; at x 1, y 0: 1 has 4, 2 has 3, 3 and 4 have 1
        due("one bar is greater, two come or grow, one stays", x.move(0, at(1, 0)), 3);
        due("bar of 3 stayed", x.bar(0, 3), 1);
        x.move(0, at(60, 60));
        due("a bar of 0 that stays 0", x.move(0, at(60, 59)), 0);
        for (int m = 1; m < 12; m++) {
            x.move(m, at(30, 30));
        }
        due("of all eleven", x.move(0, at(30, 30)), 11);
        due("of all eleven, by one", x.move(0, at(31, 30)), 11);
        due("own is none of them", line(1).move(0, at(9, 9)), 0);
        due("of the last, to all eleven", x.move(11, at(60, 60)), 11);
        due("of one in the midst, to ten", x.move(5, at(0, 0)), 10);
    }

    private static void moveRefused() {
        WavePlan x = line(2);
        due("mast 2", x.move(2, 0), -1);
        due("mast -1", x.move(-1, 0), -1);
        due("mast 12", x.move(12, 0), -1);
        due("greatest", x.move(MAX, 0), -1);
        due("y 61", x.move(0, at(0, 61)), -1);
        due("x 61", x.move(0, at(61, 0)), -1);
        due("place -1", x.move(0, -1), -1);
        due("place 60, 60", x.move(1, at(60, 60)), 0);
    }

    private static void listOfBits() {
        WavePlan x = line(2);
        due("none", x.list(0, 0), 0);
        due("none, looked at", x.look(0, 6), 0);
        due("the first", x.list(0, 1), 1);
        due("the last", x.list(0, 1 << 29), 1);
        due("all but one", x.list(0, ALL - 1), 29);
        due("all", x.list(0, ALL), 30);
        x.set(0, 3);
        x.list(0, only(4));
        due("the plan stays", x.channel(0), 3);
        due("the other mast's stays", x.look(1, 6), 30);
        x.list(0, only(3));
        due("the latest one holds", x.may(0, 4), 0);
    }

    private static void listRefused() {
        WavePlan x = line(1);
        due("bit 30", x.list(0, 1 << 30), -1);
        due("bit 31", x.list(0, MIN), -1);
        due("all bits", x.list(0, -1), -1);
        due("greatest", x.list(0, MAX), -1);
        due("mast 1", x.list(1, 1), -1);
        due("mast -1", x.list(-1, 1), -1);
        due("unchanged", x.look(0, 6), 30);
    }

    private static void gapBefore() {
        WavePlan x = heap(PLAIN, PAIR);
        due("the first one before", x.gap(1, 1), 5);
        due("least before", x.gap(1, 10), 1);
        due("greatest before", x.gap(1, 10), 10);
        due("the same before", x.gap(1, 3), 10);
        due("now", x.look(1, 7), 3);
        x.set(1, 20);
        due("of the plan, too", x.span(), 3);
    }

    private static void gapRefused() {
        WavePlan x = heap(PLAIN, PAIR, OLD, BORDER);
        due("0", x.gap(1, 0), -1);
        due("11", x.gap(1, 11), -1);
        due("-1", x.gap(1, -1), -1);
        due("least", x.gap(1, MIN), -1);
        due("greatest", x.gap(1, MAX), -1);
        due("of a plain one", x.gap(0, 5), -1);
        due("of an old one", x.gap(2, 5), -1);
        due("of a border one", x.gap(3, 5), -1);
        due("mast 4", x.gap(4, 5), -1);
        due("mast -1", x.gap(-1, 5), -1);
        due("unchanged", x.look(1, 7), 5);
    }

    private static void stayOrNot() {
        WavePlan x = heap(OLD);
        due("on 0", x.stay(0, 0), 0);
        due("may 0", x.may(0, 0), 1);
        due("not 1", x.may(0, 1), 0);
        due("on 29", x.stay(0, 29), 0);
        due("may 29", x.may(0, 29), 1);
        due("not 0", x.may(0, 0), 0);
        due("the plan stays", x.channel(0), -2);
        due("on none", x.stay(0, -1), 0);
        due("may 0 again", x.may(0, 0), 1);
        due("on none, told twice", x.stay(0, -1), 0);
        x.list(0, only(3));
        due("on one that isn't of the list", x.stay(0, 4), 0);
        due("may not", x.may(0, 4), 0);
        due("nor the list's", x.may(0, 3), 0);
    }

    private static void stayRefused() {
        WavePlan x = heap(PLAIN, PAIR, OLD, BORDER);
        due("on 30", x.stay(2, 30), -1);
        due("on -2", x.stay(2, -2), -1);
        due("least", x.stay(2, MIN), -1);
        due("greatest", x.stay(2, MAX), -1);
        due("of a plain one", x.stay(0, 1), -1);
        due("of a pair", x.stay(1, 1), -1);
        due("of a border one", x.stay(3, 1), -1);
        due("want 4", x.stay(4, 1), -1);
        due("want -1", x.stay(-1, 1), -1);
        due("unchanged", x.may(2, 7), 1);
    }

    private static void sayRules() {
        promise("7: row").says("A ROW comes to THE TABLE: how many. limit 0 .. 10000, power 0 .. 6.", EdgesTest::rowRange)
                .says("-1; -2.", EdgesTest::rowRefused);
        promise("8: own").says("OWN, and how far SUMS reach (-1 .. 10000): 0.", EdgesTest::ownRange)
                .says("-1.", EdgesTest::ownRefused);
        promise("9: border").says("LINE -1 .. 60, WIDTH 0 .. 60, two sets (30 bits): 0.", EdgesTest::borderRange)
                .says("-1.", EdgesTest::borderRefused);
        promise("10: turn").says("both sets change places", EdgesTest::turnAndTurn)
                .says("how many WANTS have a channel that they MAY not have now, but did before.", EdgesTest::turnCounts);
        promise("11: bar").says("The BAR of two MASTS (or of one and itself).", EdgesTest::barOfOneOrTwo)
                .says("-1.", EdgesTest::barRefused);
        promise("12: may").says("Whether a WANT MAY have a channel.", EdgesTest::mayOfEachKind)
                .says("-1: no such WANT.", EdgesTest::mayRefused);
    }

    private static void rowRange() {
        WavePlan x = new WavePlan();
        x.mast(0, at(0, 0), 3, 1);
        x.mast(0, at(60, 60), 3, 1);
        x.mast(0, at(60, 60), 0, 1);
        due("limit 0, power 0", x.row(0, 0, 1), 1);
        due("at one place", x.bar(1, 2), 1);
        due("not from end to end", x.bar(0, 1), 0);
        due("limit 10000, power 6", x.row(10000, 6, 2), 2);
        due("from end to end", x.bar(0, 1), 2);
        due("powers 3 and 0", x.bar(0, 2), 0);
        due("the same row again", x.row(10000, 6, 2), 3);
        due("three rows", x.count(2), 3);
    }

    private static void rowRefused() {
        WavePlan x = heap(PLAIN, PLAIN);
        due("limit -1", x.row(-1, 0, 1), -1);
        due("limit 10001", x.row(10001, 0, 1), -1);
        due("limit greatest", x.row(MAX, 0, 1), -1);
        due("power -1", x.row(0, -1, 1), -1);
        due("power 7", x.row(0, 7, 1), -1);
        due("n -1", x.row(0, 0, -1), -1);
        due("n 5", x.row(0, 0, 5), -1);
        due("none came", x.count(2), 0);
        for (int i = 1; i <= 7; i++) {
            x.row(0, 0, 1);
        }
        due("the eighth", x.row(0, 0, 2), 8);
        due("it holds", x.bar(0, 1), 2);
        due("a ninth", x.row(0, 0, 4), -2);
        due("it doesn't", x.bar(0, 1), 2);
        due("wrong and a ninth", x.row(0, 0, 5), -1);
    }

    private static void ownRange() {
        WavePlan x = heap(PLAIN, PLAIN, PLAIN);
        due("0, 0", x.own(0, 0), 0);
        due("own 0", x.bar(2, 2), 0);
        due("reach 0", x.count(4), 1);
        due("6, -1", x.own(6, -1), 0);
        due("own 6", x.bar(0, 0), 6);
        due("no sums", x.count(4), 0);
        due("1, 10000", x.own(1, 10000), 0);
        due("own 1", x.bar(1, 1), 1);
        due("sums again", x.count(4), 1);
    }

    private static void ownRefused() {
        WavePlan x = heap(PLAIN, PLAIN, PLAIN);
        x.own(3, 0);
        due("own -1", x.own(-1, -1), -1);
        due("own 7", x.own(7, -1), -1);
        due("sums -2", x.own(5, -2), -1);
        due("sums 10001", x.own(5, 10001), -1);
        due("least", x.own(MIN, MIN), -1);
        due("greatest", x.own(MAX, MAX), -1);
        due("own stays", x.bar(0, 0), 3);
        due("sums stay", x.count(4), 1);
    }

    private static void borderRange() {
        WavePlan x = new WavePlan();
        x.mast(BORDER, at(0, 0), 0, 1);
        x.mast(BORDER, at(60, 0), 0, 1);
        due("0, 0, none, all", x.border(0, 0, 0, ALL), 0);
        due("0 on the line: second", x.may(0, 29), 1);
        due("60, 0, all, none", x.border(60, 0, ALL, 0), 0);
        due("60 on the line: second", x.may(1, 29), 0);
        due("0 is too far", x.may(0, 29), 1);
        due("60, 60, bit 29, bit 0", x.border(60, 60, only(29), only(0)), 0);
        due("0 below: first", x.may(0, 29), 1);
        due("0 below: not second", x.may(0, 0), 0);
        due("60: second", x.may(1, 0), 1);
        due("-1, 0", x.border(-1, 0, 0, 0), 0);
        due("none for 0", x.may(0, 5), 1);
        due("none for 60", x.may(1, 5), 1);
    }

    private static void borderRefused() {
        WavePlan x = heap(BORDER);
        x.border(0, 0, 0, only(7));
        due("line -2", x.border(-2, 0, ALL, ALL), -1);
        due("line 61", x.border(61, 0, ALL, ALL), -1);
        due("width -1", x.border(0, -1, ALL, ALL), -1);
        due("width 61", x.border(0, 61, ALL, ALL), -1);
        due("first bit 30", x.border(0, 0, 1 << 30, ALL), -1);
        due("first bit 31", x.border(0, 0, MIN, ALL), -1);
        due("second bit 30", x.border(0, 0, ALL, 1 << 30), -1);
        due("second bit 31", x.border(0, 0, ALL, -1), -1);
        due("no line, but a wrong width", x.border(-1, 61, 0, 0), -1);
        due("no line, but a wrong set", x.border(-1, 0, 0, -1), -1);
        due("stays", x.may(0, 7), 1);
        due("stays so", x.may(0, 6), 0);
    }

    private static void turnAndTurn() {
        WavePlan x = new WavePlan();
        x.mast(BORDER, at(9, 0), 0, 1);
        x.mast(BORDER, at(10, 0), 0, 1);
        x.border(10, 1, only(0), only(1));
        due("no want has a channel", x.turn(), 0);
        due("below: second", x.may(0, 1), 1);
        due("below: not first", x.may(0, 0), 0);
        due("on it: first", x.may(1, 0), 1);
        due("on it: not second", x.may(1, 1), 0);
        due("again", x.turn(), 0);
        due("as before", x.may(0, 0), 1);
        due("as before, too", x.may(1, 1), 1);
        x.turn();
        x.border(10, 1, only(0), only(1));
        due("told anew, not turned", x.may(0, 0), 1);
        due("without masts", new WavePlan().turn(), 0);
    }

    private static void turnCounts() {
        WavePlan x = new WavePlan();
        x.mast(BORDER, at(9, 0), 0, 3);
        x.mast(BORDER, at(8, 0), 0, 1);
        x.mast(PLAIN, at(9, 0), 0, 1);
        x.border(10, 1, only(0, 1), only(1, 2));
        setAll(x, 0, 0, 0, 0, 0);
        due("three of one mast; one too far, one plain", x.turn(), 3);
        due("they may again", x.turn(), 0);
        setAll(x, 1, 2, 3, 0, 0);
        // 1 may both; 2 may after; 3 may neither
        due("both, after, neither", x.turn(), 0);
        due("the one that may no more", x.turn(), 1);
        x.border(-1, 0, only(0, 1), only(1, 2));
        setAll(x, 0, 0, 0);
        due("no line", x.turn(), 0);
        x.border(10, 1, only(0), only(1));
        x.list(0, only(1));
        due("not of the list before either", x.turn(), 0);
    }

    private static void barOfOneOrTwo() {
        WavePlan x = heap(PLAIN, PLAIN);
        due("itself", x.bar(1, 1), 2);
        due("two without", x.bar(0, 1), 0);
        x.row(0, 0, 4);
        due("two", x.bar(0, 1), 4);
        due("the other way", x.bar(1, 0), 4);
        due("itself still", x.bar(0, 0), 2);
    }

    private static void barRefused() {
        WavePlan x = heap(PLAIN, PLAIN);
        due("0, 2", x.bar(0, 2), -1);
        due("2, 0", x.bar(2, 0), -1);
        due("2, 2", x.bar(2, 2), -1);
        due("-1, -1", x.bar(-1, -1), -1);
        due("0, -1", x.bar(0, -1), -1);
        due("least, 0", x.bar(MIN, 0), -1);
        due("0, greatest", x.bar(0, MAX), -1);
    }

    private static void mayOfEachKind() {
        WavePlan x = heap(PLAIN, PAIR, OLD, BORDER);
        for (int w = 0; w < 4; w++) {
            due("0 of kind " + w, x.may(w, 0), 1);
            due("29 of kind " + w, x.may(w, 29), w == PAIR ? 0 : 1);
            due("30 of kind " + w, x.may(w, 30), 0);
            due("-1 of kind " + w, x.may(w, -1), 0);
        }
        x.row(0, 0, 4);
        x.set(0, 7);
        due("harm is nothing to it", x.may(2, 7), 1);
    }

    private static void mayRefused() {
        WavePlan x = heap(PLAIN);
        due("want 1", x.may(1, 0), -1);
        due("want -1", x.may(-1, 0), -1);
        due("want 16", x.may(16, 0), -1);
        due("want 1, no channel", x.may(1, 30), -1);
        due("greatest", x.may(MAX, MAX), -1);
        due("least", x.may(MIN, MIN), -1);
    }

    private static void sayPlan() {
        promise("13: set").says("A WANT has a channel (0 .. 29; -1: none) in THE PLAN", EdgesTest::setRange)
                .says("whether it MAY or not: the one before, -2 none.", EdgesTest::setBefore)
                .says("-1.", EdgesTest::setRefused);
        promise("14: channel").says("The channel of a WANT; -2: none. -1.", EdgesTest::channelOrNone);
        promise("15: of").says("The MAST of a WANT. -1.", EdgesTest::mastOfWant);
        promise("16: harm").says("HARM of THE PLAN.", EdgesTest::harmOfFull);
        promise("17: kept").says("1: THE PLAN is KEPT, else 0.", EdgesTest::keptOfFull);
    }

    private static void setRange() {
        WavePlan x = line(2);
        due("0", x.set(1, 0), -2);
        due("is 0", x.channel(1), 0);
        due("29", x.set(1, 29), 0);
        due("is 29", x.channel(1), 29);
        due("none", x.set(1, -1), 29);
        due("is none", x.channel(1), -2);
        due("the other", x.channel(0), -2);
        due("none has any", x.count(6), 0);
    }

    private static void setBefore() {
        WavePlan x = heap(PAIR, OLD, BORDER);
        x.stay(1, 3);
        x.border(0, 0, 0, 0);
        for (int w = 0; w < 3; w++) {
            due("none before", x.set(w, 29), -2);
            due("29 before, whether it may or not", x.set(w, 4), 29);
            due("4 before", x.set(w, 4), 4);
            due("to none", x.set(w, -1), 4);
            due("none again", x.set(w, -1), -2);
        }
    }

    private static void setRefused() {
        WavePlan x = line(1);
        x.set(0, 5);
        due("30", x.set(0, 30), -1);
        due("-2", x.set(0, -2), -1);
        due("least", x.set(0, MIN), -1);
        due("greatest", x.set(0, MAX), -1);
        due("want 1", x.set(1, 0), -1);
        due("want -1", x.set(-1, 0), -1);
        due("want 16", x.set(16, 0), -1);
        due("stays", x.channel(0), 5);
    }

    private static WavePlan sixteenWants() {
        WavePlan x = new WavePlan();
        for (int m = 0; m < 12; m++) {
            x.mast(PLAIN, 0, 0, m < 4 ? 2 : 1);
        }
        return x;
    }

    private static void channelOrNone() {
        WavePlan x = sixteenWants();
        due("none", x.channel(15), -2);
        x.set(15, 0);
        due("0", x.channel(15), 0);
        x.set(15, 29);
        due("29", x.channel(15), 29);
        due("want 16", x.channel(16), -1);
        due("want -1", x.channel(-1), -1);
        due("least", x.channel(MIN), -1);
        due("greatest", x.channel(MAX), -1);
    }

    private static void mastOfWant() {
        WavePlan x = sixteenWants();
        due("the first", x.of(0), 0);
        due("of the same", x.of(1), 0);
        due("the last with two", x.of(7), 3);
        due("the first with one", x.of(8), 4);
        due("the last", x.of(15), 11);
        due("want 16", x.of(16), -1);
        due("want -1", x.of(-1), -1);
        due("least", x.of(MIN), -1);
        due("greatest", x.of(MAX), -1);
    }

    private static void harmOfFull() {
        WavePlan x = sixteenWants();
        for (int w = 0; w < 16; w++) {
            x.set(w, 3);
        }
        due("own alone: four twos of one mast", x.harm(), 4 * 2);
        x.row(0, 0, 4);
        due("120 twos, 4 of them of one mast", x.harm(), 4 * 2 + 116 * 4);
        x.own(0, 0);
        // threes of masts: 4 with two wants (t), 8 with one: e3 = C(8,3) + 2 * 4 C(8,2) + 4 * 6 * 8 + 8 * 4 = 56 + 224 + 192 + 32
        due("504 threes, of whom each is p", x.broken(2), 3 * 504);
        due("all of it", x.harm(), 116 * 4 + 5 * 3 * 504);
        for (int m = 0; m < 12; m++) {
            x.list(m, 0);
        }
        due("and none may", x.harm(), 116 * 4 + 5 * 3 * 504 + 160);
    }

    private static void keptOfFull() {
        due("without wants", new WavePlan().kept(), 1);
        WavePlan x = sixteenWants();
        x.own(1, -1);
        for (int w = 0; w < 15; w++) {
            x.set(w, w);
        }
        due("the last has none", x.kept(), 0);
        x.set(15, 15);
        due("each has one", x.kept(), 1);
        x.set(1, 0);
        due("a lack of 1", x.kept(), 0);
    }

    private static void sayBroken() {
        promise("18: broken").says("what = 0 how many two WANTS (1), 1 their lacks together, 2 p, q, r (2), 3 WANTS (3).",
                        EdgesTest::brokenOfNone)
                .says("Of what is BROKEN", EdgesTest::brokenOfAll)
                .says("-1 for others.", EdgesTest::brokenOthers);
        promise("19: pair").says("The i-th two WANTS of (1), from 0, by the lesser one, then the other", EdgesTest::pairsInOrder)
                .says("what = 0 the lesser, 1 the other, 2 the lack.", EdgesTest::pairOfLacks)
                .says("-1: none such.", EdgesTest::pairNoneSuch);
    }

    private static void brokenOfNone() {
        WavePlan empty = new WavePlan();
        WavePlan x = heap(PLAIN, PLAIN, PLAIN);
        x.row(0, 0, 4);
        x.own(0, 0);
        for (int what = 0; what <= 3; what++) {
            due("without masts", empty.broken(what), 0);
            due("none has any", x.broken(what), 0);
        }
        setAll(x, 0, 4, 8);
        due("no two", x.broken(0), 0);
        due("no lack", x.broken(1), 0);
        due("a sum", x.broken(2), 1);
        setAll(x, 0, 3, 7);
        due("one two", x.broken(0), 1);
        due("a lack of 1", x.broken(1), 1);
        due("no sum", x.broken(2), 0);
        due("all may", x.broken(3), 0);
    }

    private static void brokenOthers() {
        WavePlan x = heap(PLAIN, PLAIN);
        for (int what : new int[] {-1, -2, 4, 5, MIN, MAX}) {
            due("broken(" + what + ")", x.broken(what), -1);
        }
    }

    private static void brokenOfAll() {
        WavePlan x = sixteenWants();
        x.row(0, 0, 1);
        x.own(3, 0);
        for (int w = 0; w < 16; w++) {
            x.set(w, 9);
        }
        for (int m = 0; m < 12; m++) {
            x.list(m, 1);
        }
        due("120 twos", x.broken(0), 120);
        due("116 lacks of 1, 4 of 3", x.broken(1), 128);
        due("504 threes, each of whom is p", x.broken(2), 1512);
        due("16 that may not", x.broken(3), 16);
    }

    private static void pairsInOrder() {
        WavePlan x = sixteenWants();
        x.row(0, 0, 1);
        for (int w = 0; w < 16; w++) {
            x.set(w, 9);
        }
        due("the first, lesser", x.pair(0, 0), 0);
        due("the first, other", x.pair(0, 1), 1);
        due("15 with the first", x.pair(14, 0), 0);
        due("the last of them", x.pair(14, 1), 15);
        due("the next", x.pair(15, 0), 1);
        due("with 2", x.pair(15, 1), 2);
        due("the last, lesser", x.pair(119, 0), 14);
        due("the last, other", x.pair(119, 1), 15);
        due("no more", x.pair(120, 0), -1);
        setAll(x, 0, 9, 29);
        x.set(3, 0);
        due("those without a lack don't count: 0 with 3", x.pair(0, 1), 3);
        due("1 with 4", x.pair(1, 0), 1);
        due("4 with 1", x.pair(1, 1), 4);
    }

    private static void pairOfLacks() {
        WavePlan x = new WavePlan();
        x.mast(PLAIN, 0, 0, 2);
        x.mast(PLAIN, 0, 0, 1);
        x.row(0, 0, 4);
        x.own(6, -1);
        setAll(x, 10, 5, 7);
        int[][] twos = {{0, 1, 1}, {0, 2, 1}, {1, 2, 2}};
        for (int i = 0; i < 3; i++) {
            for (int what = 0; what < 3; what++) {
                due("pair(" + i + ", " + what + ")", x.pair(i, what), twos[i][what]);
            }
        }
        setAll(x, 10, 10, 10);
        due("own's greatest", x.pair(0, 2), 6);
        due("the table's greatest", x.pair(2, 2), 4);
    }

    private static void pairNoneSuch() {
        WavePlan x = heap(PLAIN, PLAIN);
        x.row(0, 0, 1);
        due("none is broken", x.pair(0, 0), -1);
        due("without masts", new WavePlan().pair(0, 0), -1);
        setAll(x, 3, 3);
        due("i 0", x.pair(0, 2), 1);
        due("i 1", x.pair(1, 0), -1);
        due("i -1", x.pair(-1, 0), -1);
        due("least i", x.pair(MIN, 0), -1);
        due("greatest i", x.pair(MAX, 2), -1);
        due("what -1", x.pair(0, -1), -1);
        due("what 3", x.pair(0, 3), -1);
        due("least what", x.pair(0, MIN), -1);
        due("greatest what", x.pair(0, MAX), -1);
    }

    private static void sayTries() {
        promise("20: plan").says("TRIES with channels below n (1 .. 30): 1, and THE PLAN is what they came to", EdgesTest::planRange)
                .says("0: there is none (THE PLAN stays)", EdgesTest::planNone)
                .says("-2: SPENT (it stays).", EdgesTest::planSpent)
                .says("-1. (Without WANTS: 1.)", EdgesTest::planWithoutWants);
        promise("21: tries").says("How many TRIES the latest plan(), or all of the latest least(), made.", EdgesTest::latestTries);
        promise("22: least").says("The least n for which plan(n) would be 1, THE PLAN is that then: n from 1 on",
                        EdgesTest::leastFromOne)
                .says("4000 TRIES in all.", EdgesTest::leastTries)
                .says("-2: SPENT; -3: there is none. (THE PLAN stays.)", EdgesTest::leastStays);
        promise("23: span").says("The greatest CHANNEL OF all WANTS less the least.", EdgesTest::spanOfChannels)
                .says("-2: none has any.", EdgesTest::spanOfNone);
    }

    private static void planRange() {
        WavePlan x = line(1);
        x.set(0, 7);
        due("n 0", x.plan(0), -1);
        due("n 31", x.plan(31), -1);
        due("n -1", x.plan(-1), -1);
        due("least", x.plan(MIN), -1);
        due("greatest", x.plan(MAX), -1);
        due("stays", x.channel(0), 7);
        due("n 1", x.plan(1), 1);
        due("the plan is it", x.channel(0), 0);
        x.list(0, only(29));
        due("n 30", x.plan(30), 1);
        due("the plan is it, too", x.channel(0), 29);
        WavePlan full = sixteenWants();
        full.row(0, 0, 1);
        full.own(1, -1);
        due("all 16 wants", full.plan(16), 1);
        due("the last", full.channel(15), 15);
        due("kept", full.kept(), 1);
    }

    private static void planNone() {
        WavePlan x = heap(PLAIN, PLAIN);
        x.row(0, 0, 1);
        setAll(x, 7, -1);
        due("none with one channel", x.plan(1), 0);
        dueChannels("stays", x, 7, -2);
        x.list(1, 0);
        due("none at all", x.plan(30), 0);
        dueChannels("stays so", x, 7, -2);
    }

    private static void planSpent() {
        WavePlan x = sixteenWants();
        x.row(0, 0, 1);
        x.set(15, 4);
        due("15 channels for 16 wants", x.plan(15), -2);
        due("the first has none", x.channel(0), -2);
        due("the last stays", x.channel(15), 4);
        due("4000 tries", x.tries(), 4000);
    }

    private static void planWithoutWants() {
        WavePlan x = new WavePlan();
        due("n 1", x.plan(1), 1);
        due("n 30", x.plan(30), 1);
        due("no tries", x.tries(), 0);
        due("n 0", x.plan(0), -1);
        due("n 31", x.plan(31), -1);
    }

    private static void latestTries() {
        WavePlan x = heap(PLAIN, PLAIN);
        x.row(0, 0, 4);
        due("none yet", x.tries(), 0);
        x.plan(4);
        // each of 4, and 4 below each
        due("of a plan that is none", x.tries(), 4 + 16);
        x.plan(5);
        due("of a later plan", x.tries(), 1 + 5);
        x.least();
        // n (1 + n) of n = 1 .. 4, then 6
        due("of all of least", x.tries(), 2 + 6 + 12 + 20 + 6);
        x.plan(31);
        due("a refused one made none", x.tries(), 46);
        x.better(1);
        x.fewest(2);
        x.set(0, 3);
        due("others make none", x.tries(), 46);
        x.plan(5);
        due("of a plan behind a least", x.tries(), 6);
        x.least();
        x.least();
        due("of the latest least alone", x.tries(), 46);
    }

    private static void leastFromOne() {
        WavePlan empty = new WavePlan();
        due("without wants", empty.least(), 1);
        due("without tries", empty.tries(), 0);
        WavePlan x = heap(PLAIN);
        x.set(0, 9);
        due("1", x.least(), 1);
        due("the plan is that", x.channel(0), 0);
        x.list(0, only(29));
        due("30", x.least(), 30);
        due("on 29", x.channel(0), 29);
        x.list(0, only(3, 29));
        due("4", x.least(), 4);
        due("on 3", x.channel(0), 3);
        WavePlan pair = heap(PAIR);
        due("D + 1", pair.least(), 6);
        pair.gap(0, 10);
        due("D + 1 of 10", pair.least(), 11);
        pair.list(0, only(19, 29));
        due("30 of a pair", pair.least(), 30);
        due("on 19", pair.channel(0), 19);
    }

    /** Two masts without a bar; both have these lists. */
    private static WavePlan two(int list, int last) {
        WavePlan x = line(2);
        x.list(0, list);
        x.list(1, last);
        return x;
    }

    private static void leastTries() {
        // of each n below 30, n (1 + how many of the first list are below n); of 30: 1 and 30
        WavePlan just = two(only(0, 1, 2, 3, 4, 5, 8, 15, 19), only(29));
        due("the 4000th is taken", just.least(), 30);
        due("4000", just.tries(), 4000);
        dueChannels("planned", just, 0, 29);
        WavePlan more = two(only(0, 1, 2, 3, 4, 5, 6, 17, 18), only(29));
        due("the 4001st would be taken", more.least(), -2);
        due("no more than 4000", more.tries(), 4000);
        due("plan(30) alone isn't spent", more.plan(30), 1);
        due("1 and 30 tries", more.tries(), 31);
        // of each n to 30, as above
        WavePlan none = two(only(0, 1, 2, 3, 4, 5, 9, 14), 0);
        due("the 4000th is the last of all", none.least(), -3);
        due("so there is none", none.tries(), 4000);
        WavePlan one = two(only(0, 1, 2, 3, 4, 7, 9, 13), 0);
        due("4001 would be made", one.least(), -2);
        due("4000 are", one.tries(), 4000);
    }

    private static void leastStays() {
        WavePlan spent = two(only(0, 1, 2, 3, 4, 7, 9, 13), 0);
        setAll(spent, 5, 6);
        due("spent", spent.least(), -2);
        dueChannels("stays", spent, 5, 6);
        WavePlan none = heap(PLAIN);
        none.list(0, 0);
        none.set(0, 9);
        due("none", none.least(), -3);
        due("1 + 2 + .. + 30 tries", none.tries(), 465);
        dueChannels("stays, too", none, 9);
    }

    private static void spanOfChannels() {
        WavePlan x = heap(PLAIN, PAIR, PLAIN);
        x.set(1, 0);
        due("a pair alone", x.span(), 5);
        x.set(0, 5);
        due("one on its second", x.span(), 5);
        x.set(0, 6);
        due("one above it", x.span(), 6);
        setAll(x, 0, -1, 29);
        due("from end to end", x.span(), 29);
        setAll(x, 7, -1, 7);
        due("on one channel", x.span(), 0);
        x.gap(1, 10);
        setAll(x, 0, 29, -1);
        due("c + D, though it may not be", x.span(), 39);
        WavePlan all = sixteenWants();
        all.set(0, 3);
        all.set(15, 20);
        due("of all 16 wants", all.span(), 17);
    }

    private static void spanOfNone() {
        due("without wants", new WavePlan().span(), -2);
        WavePlan x = heap(PLAIN, PAIR);
        due("none", x.span(), -2);
        x.set(0, 0);
        due("one, on 0", x.span(), 0);
        x.set(0, 29);
        due("one, on 29", x.span(), 0);
        x.set(0, -1);
        due("none again", x.span(), -2);
    }

    private static void sayChanges() {
        promise("24: better").says("BETTER, again and again, n times at most (1 .. 50): how many were done.", EdgesTest::betterAgain)
                .says("-1.", EdgesTest::betterRefused);
        promise("25: fewest").says("The least number of WANTS (at most most, 0 .. 2) whose channels would have to be others",
                        EdgesTest::fewestNumber)
                .says("(none of those that are told to stay), ones that they MAY have, that HARM is 0", EdgesTest::fewestMay)
                .says("ones that they MAY have, that HARM is 0", EdgesTest::fewestOfPairs)
                .says("The least number of WANTS", EdgesTest::fewestOfAll)
                .says("the others keep theirs (or none)", EdgesTest::fewestKeep)
                .says("-2: not by so many.", EdgesTest::fewestTooMany)
                .says("of these the WANTS that are least (the first one, then the second), then the least channels.",
                        EdgesTest::fewestLeast)
                .says("-1.", EdgesTest::fewestRefused);
    }

    private static void betterAgain() {
        int[] wants = {1, 2, 3, 4, 14, 15, 16, 50};
        for (int n : wants) {
            WavePlan x = sixteenWants();
            x.row(0, 0, 1);
            x.own(1, -1);
            for (int w = 0; w < 16; w++) {
                x.set(w, 0);
            }
            // each time one goes to where none is: 15 times
            due("better(" + n + ")", x.better(n), Math.min(n, 15));
            due("the last stays on 0", x.channel(15), 0);
            due("how many are on 0", x.harm(), (15 - Math.min(n, 15)) * (16 - Math.min(n, 15)) / 2);
        }
        due("without wants", new WavePlan().better(1), 0);
    }

    private static void betterRefused() {
        WavePlan x = heap(PLAIN, PLAIN);
        x.row(0, 0, 1);
        setAll(x, 0, 0);
        due("0", x.better(0), -1);
        due("51", x.better(51), -1);
        due("-1", x.better(-1), -1);
        due("least", x.better(MIN), -1);
        due("greatest", x.better(MAX), -1);
        dueChannels("stays", x, 0, 0);
        due("1", x.better(1), 1);
    }

    private static void fewestNumber() {
        WavePlan x = line(6);
        x.row(1, 0, 1);
        setAll(x, 0, 1, 0, 1, 0, 1);
        for (int most = 0; most <= 2; most++) {
            due("none has to be another, of " + most, x.fewest(most), 0);
        }
        dueChannels("stays", x, 0, 1, 0, 1, 0, 1);
        setAll(x, 0, 0, 5, 1, 0, 1);
        due("one has to be, of 0", x.fewest(0), -2);
        due("one has to be, of 1", x.fewest(1), 1);
        dueChannels("one", x, 1, 0, 5, 1, 0, 1);
        setAll(x, 0, 0, 5, 1, 0, 1);
        due("one has to be, of 2", x.fewest(2), 1);
        dueChannels("one, too", x, 1, 0, 5, 1, 0, 1);
        setAll(x, 0, 0, 3, 3, 0, 1);
        due("two have to be, of 1", x.fewest(1), -2);
        due("two have to be, of 2", x.fewest(2), 2);
        dueChannels("two", x, 1, 0, 1, 3, 0, 1);
        due("without wants", new WavePlan().fewest(0), 0);
    }

    private static void fewestMay() {
        WavePlan x = heap(OLD, OLD);
        x.row(0, 0, 1);
        x.stay(0, 7);
        setAll(x, 7, 7);
        due("the one that isn't told", x.fewest(1), 1);
        dueChannels("goes", x, 7, 0);
        setAll(x, 6, 0);
        due("one that is told doesn't go, even to what it is told", x.fewest(2), -2);
        dueChannels("stays", x, 6, 0);
        x.stay(0, -1);
        x.list(0, only(28, 29));
        due("one that it may have", x.fewest(2), 1);
        dueChannels("the least of these", x, 28, 0);
        x.list(0, only(0));
        due("two, as the one is taken", x.fewest(2), 2);
        dueChannels("both go", x, 0, 1);
        x.list(0, 0);
        due("it may have none", x.fewest(2), -2);
        WavePlan sum = heap(PLAIN, PLAIN, PLAIN);
        sum.own(0, 0);
        sum.list(0, only(2, 4, 6, 7));
        setAll(sum, 4, 2, 6);
        // 2: 2 2 6 is none
        due("a sum", sum.fewest(1), 1);
        dueChannels("broken by the first", sum, 2, 2, 6);
    }

    private static void fewestKeep() {
        WavePlan x = heap(PLAIN, PLAIN, PLAIN, PLAIN);
        x.row(0, 0, 1);
        setAll(x, -1, 4, 4, -1);
        due("one", x.fewest(2), 1);
        dueChannels("the others keep none", x, -2, 0, 4, -2);
        setAll(x, -1, -1, -1, -1);
        due("none", x.fewest(2), 0);
        dueChannels("all keep none", x, -2, -2, -2, -2);
    }

    private static void fewestTooMany() {
        WavePlan x = line(6);
        x.row(1, 0, 1);
        setAll(x, 0, 0, 3, 3, 6, 6);
        // three twos that have nothing in common
        for (int most = 0; most <= 2; most++) {
            due("three have to be, of " + most, x.fewest(most), -2);
            dueChannels("stays", x, 0, 0, 3, 3, 6, 6);
        }
        x.set(5, -1);
        due("two have to be", x.fewest(2), 2);
    }

    /** All 16 wants: the last ones are in it, too. */
    private static void fewestOfAll() {
        WavePlan x = sixteenWants();
        x.row(0, 0, 1);
        x.own(1, -1);
        for (int w = 0; w < 16; w++) {
            x.set(w, w);
        }
        due("no harm", x.fewest(2), 0);
        x.set(15, 14);
        due("14 or 15", x.fewest(1), 1);
        due("14 goes", x.channel(14), 15);
        setAll(x, 0, 1, 2, 3, 4, 5, 6, 7, 8, 9, 10, 11, 12, 12, 14, 14);
        x.list(9, only(12));
        x.list(10, only(14));
        // wants 13 and 14 are those of masts 9 and 10
        due("two twos", x.fewest(2), 2);
        due("12 goes", x.channel(12), 13);
        due("15 goes, as 14 can't", x.channel(15), 15);
        for (int m = 0; m < 12; m++) {
            x.list(m, m < 8 ? ALL : 0);
        }
        due("four that may not", x.fewest(2), -2);
    }

    private static void fewestOfPairs() {
        WavePlan x = heap(PAIR, PLAIN);
        x.row(0, 0, 1);
        x.list(0, only(0, 1, 2, 5, 6, 7));
        x.list(1, only(5));
        setAll(x, 0, 5);
        due("c + D of a pair", x.fewest(1), 1);
        dueChannels("the next one", x, 1, 5);
        x.list(0, only(0, 5));
        x.list(1, only(0, 3, 5));
        setAll(x, 0, 5);
        due("beside a pair", x.fewest(1), 1);
        dueChannels("not 0 either", x, 0, 3);
    }

    private static void fewestLeast() {
        WavePlan x = line(4);
        x.row(1, 0, 1);
        setAll(x, 5, 5, 9, 9);
        due("0 and 2", x.fewest(2), 2);
        dueChannels("the first, then the second", x, 0, 5, 0, 9);
        setAll(x, 5, 5, 9, 9);
        x.list(2, only(9));
        due("0 and 3, before 1 and 3", x.fewest(2), 2);
        dueChannels("as 2 can't", x, 0, 5, 9, 0);
        setAll(x, 5, 5, 9, 9);
        x.list(2, ALL);
        x.list(0, only(5));
        due("1 and 2", x.fewest(2), 2);
        dueChannels("as 0 can't", x, 5, 0, 1, 9);
        WavePlan two = heap(PLAIN, PLAIN, PLAIN);
        two.row(0, 0, 2);
        two.list(2, only(0));
        two.list(0, only(2, 4, 9));
        two.list(1, only(2, 4));
        setAll(two, 0, 0, 0);
        due("the first's least", two.fewest(2), 2);
        dueChannels("then the second's", two, 2, 4, 0);
        two.list(1, only(2));
        setAll(two, 0, 0, 0);
        due("the first's next", two.fewest(2), 2);
        dueChannels("where the second has one", two, 4, 2, 0);
        WavePlan one = heap(PLAIN, PLAIN);
        one.row(0, 0, 4);
        setAll(one, 1, 2);
        due("the least want", one.fewest(2), 1);
        dueChannels("its least channel", one, 6, 2);
    }

    private static void fewestRefused() {
        WavePlan x = heap(PLAIN, PLAIN);
        x.row(0, 0, 1);
        setAll(x, 0, 0);
        due("-1", x.fewest(-1), -1);
        due("3", x.fewest(3), -1);
        due("least", x.fewest(MIN), -1);
        due("greatest", x.fewest(MAX), -1);
        dueChannels("stays", x, 0, 0);
    }

    private static void sayCrowds() {
        promise("26: bound").says("The BOUND of a CROWD (MASTS as bits).", EdgesTest::boundOfBits)
                .says("-1: no MASTS, or one that isn't there", EdgesTest::boundNotThere)
                .says("-2: it is no CROWD", EdgesTest::boundNoCrowd)
                .says("-3: more than 6 WANTS.", EdgesTest::boundTooMany);
        promise("27: crowd").says("The MASTS of the CROWD (with at most 6 WANTS) of the greatest BOUND", EdgesTest::crowdOfSix)
                .says("as bits, of these the least number.", EdgesTest::crowdLeastNumber)
                .says("0: there are no MASTS.", EdgesTest::crowdOfNone);
        promise("28: part").says("The PART of a MAST. -1.", EdgesTest::partOfMast);
    }

    private static void boundOfBits() {
        WavePlan x = line(12);
        x.row(0, 0, 1);
        for (int m = 0; m < 12; m++) {
            due("each alone", x.bound(1 << m), 0);
        }
        x.row(1, 0, 3);
        due("the last two", x.bound(0b110000000000), 3);
    }

    private static void boundNotThere() {
        WavePlan x = line(2);
        x.row(1, 0, 1);
        due("no masts", x.bound(0), -1);
        due("all that are there", x.bound(0b11), 1);
        due("mast 2", x.bound(0b100), -1);
        due("mast 2, too", x.bound(0b111), -1);
        due("bit 30", x.bound(1 << 30), -1);
        due("bit 31", x.bound(MIN), -1);
        due("bit 31, too", x.bound(MIN + 1), -1);
        due("all bits", x.bound(-1), -1);
        due("in an empty office", new WavePlan().bound(1), -1);
        due("none in an empty office", new WavePlan().bound(0), -1);
        WavePlan full = line(12);
        due("mast 11", full.bound(1 << 11), 0);
        due("mast 12", full.bound(1 << 12), -1);
        due("mast 12, too", full.bound(1 << 12 | 1), -1);
    }

    private static void boundNoCrowd() {
        WavePlan x = line(12);
        x.row(1, 0, 1);
        due("0 and 2", x.bound(0b101), -2);
        due("all twelve", x.bound((1 << 12) - 1), -2);
        due("10 and 11", x.bound(0b110000000000), 1);
        due("9 and 11", x.bound(0b101000000000), -2);
    }

    private static void boundTooMany() {
        WavePlan x = new WavePlan();
        x.mast(0, 0, 0, 3);
        x.mast(0, 0, 0, 3);
        x.mast(0, 0, 0, 1);
        x.row(0, 0, 1);
        due("six", x.bound(0b011), 5);
        due("seven", x.bound(0b111), -3);
        due("four", x.bound(0b101), 2 + 1 + 1);
        WavePlan full = sixteenWants();
        full.row(0, 0, 4);
        due("sixteen", full.bound((1 << 12) - 1), -3);
        due("six of the last", full.bound(0b111111000000), 20);
        due("seven of the last", full.bound(0b111111100000), -3);
    }

    private static void crowdOfSix() {
        WavePlan x = heap(PLAIN, PLAIN, PLAIN, PLAIN, PLAIN, PLAIN, PLAIN);
        x.row(0, 0, 1);
        due("six of seven", x.crowd(), 0b0111111);
        WavePlan two = new WavePlan();
        two.mast(0, 0, 0, 3);
        two.mast(0, 0, 0, 2);
        two.mast(0, 0, 0, 2);
        two.row(0, 0, 4);
        // 0 and 1, 0 and 2: five wants, own 2 three times and 4; all: seven
        due("not seven", two.crowd(), 0b011);
        WavePlan six = new WavePlan();
        six.mast(0, 0, 0, 2);
        six.mast(0, 0, 0, 3);
        six.mast(0, 0, 0, 3);
        six.row(0, 0, 4);
        due("three and three", six.crowd(), 0b110);
        WavePlan less = new WavePlan();
        less.mast(0, 0, 2, 1);
        less.mast(0, 0, 2, 1);
        less.mast(0, 0, 0, 1);
        less.row(0, 4, 4);
        less.row(0, 0, 1);
        // all three: 2; 0 and 1: 4
        due("more masts, a lesser bound", less.crowd(), 0b011);
        WavePlan over = new WavePlan();
        for (int wants : new int[] {3, 1, 3, 2}) {
            over.mast(0, 0, 0, wants);
        }
        over.row(0, 0, 4);
        // own 2 within each, 4 between them; 0 1 3: 14, 1 2 3: 14, 0 2: 12, 0 1 2 has seven wants
        due("over one that would be too many", over.crowd(), 0b1011);
    }

    private static void crowdLeastNumber() {
        WavePlan x = line(12);
        due("all bounds are 0", x.crowd(), 1);
        x.row(1, 0, 4);
        due("the first two", x.crowd(), 0b11);
        x.move(0, at(60, 60));
        due("the next two", x.crowd(), 0b110);
        WavePlan own = new WavePlan();
        own.mast(0, at(0, 0), 0, 1);
        own.mast(0, at(1, 0), 0, 1);
        own.mast(0, at(9, 0), 0, 2);
        own.row(1, 0, 2);
        due("3 before 4, though of more masts", own.crowd(), 0b011);
        WavePlan more = new WavePlan();
        more.mast(0, 0, 0, 2);
        more.mast(0, 0, 0, 1);
        more.row(0, 0, 1);
        more.own(2, -1);
        // 0: 2; 0 and 1: 1 between the two: 2
        due("1 before 3", more.crowd(), 0b01);
        WavePlan last = line(12);
        last.row(1, 0, 1);
        last.move(10, at(30, 30));
        last.move(11, at(30, 30));
        last.row(0, 0, 2);
        due("the last two", last.crowd(), 0b110000000000);
        WavePlan between = new WavePlan();
        for (int place : new int[] {0, 30, 1, 31}) {
            between.mast(0, at(place, 0), 0, 1);
        }
        between.row(1, 0, 4);
        due("0 and 2, over one that has no bar", between.crowd(), 0b0101);
    }

    private static void crowdOfNone() {
        due("no masts", new WavePlan().crowd(), 0);
        WavePlan rows = new WavePlan();
        rows.row(10000, 0, 4);
        due("rows alone", rows.crowd(), 0);
        WavePlan one = new WavePlan();
        one.mast(0, 0, 0, 1);
        due("one mast", one.crowd(), 1);
    }

    private static void partOfMast() {
        WavePlan x = line(12);
        x.row(1, 0, 1);
        due("the first", x.part(0), 0);
        due("the last, over ten others", x.part(11), 0);
        due("mast 12", x.part(12), -1);
        due("mast -1", x.part(-1), -1);
        due("least", x.part(MIN), -1);
        due("greatest", x.part(MAX), -1);
        x.move(6, at(6, 9));
        due("beyond a gap", x.part(11), 2);
        due("before it", x.part(5), 0);
        due("the one that went", x.part(6), 1);
        due("in an empty office", new WavePlan().part(0), -1);
    }

    private static void sayImages() {
        promise("29: image").says("An IMAGE of THE PLAN (channels of the WANTS) is kept: how many WANTS have one.",
                EdgesTest::imageOfPlan);
        promise("30: restore").says("WANTS that the IMAGE has get its channels back: how many WANTS have other ones than before.",
                        EdgesTest::restoreOthers)
                .says("-2: there is none.", EdgesTest::restoreNone);
        promise("31: count").says("0 MASTS, 1 WANTS, 2 ROWS, 3 two MASTS with a BAR above 0, 4 three MASTS that ARE IN, 5 PARTS, "
                        + "6 WANTS with a channel", EdgesTest::countFull)
                .says("-1 for others.", EdgesTest::countOthers);
        promise("32: look").says("0 KIND, 1 x, 2 y, 3 POWER, 4 WANTS, 5 its first WANT, 6 how many channels its LIST has, 7 D (-2).",
                        EdgesTest::lookAtAll)
                .says("-1.", EdgesTest::lookRefused);
    }

    private static void imageOfPlan() {
        due("without wants", new WavePlan().image(), 0);
        WavePlan x = sixteenWants();
        due("none has any", x.image(), 0);
        x.set(15, 0);
        due("one, on 0", x.image(), 1);
        for (int w = 0; w < 16; w++) {
            x.set(w, 29);
        }
        due("all", x.image(), 16);
        x.set(0, 3);
        due("the image stays", x.restore(), 1);
        due("back", x.channel(0), 29);
        x.set(0, 4);
        x.image();
        x.set(0, 5);
        x.restore();
        due("the latest image", x.channel(0), 4);
    }

    private static void restoreOthers() {
        WavePlan x = line(4);
        setAll(x, 0, 29, -1, 7);
        x.image();
        due("nothing is other", x.restore(), 0);
        setAll(x, -1, 29, 3, 8);
        due("one had none, one has none now, one is other", x.restore(), 3);
        dueChannels("back", x, 0, 29, -2, 7);
        x.mast(0, 0, 0, 2);
        x.set(4, 11);
        x.set(0, 1);
        due("later ones are not of it", x.restore(), 1);
        dueChannels("they keep theirs", x, 0, 29, -2, 7, 11, -2);
        x.list(0, 0);
        x.set(0, 5);
        due("whether it may or not", x.restore(), 1);
        due("it may not", x.broken(3), 1);
    }

    private static void restoreNone() {
        WavePlan x = line(1);
        x.set(0, 3);
        due("no image", x.restore(), -2);
        due("stays", x.channel(0), 3);
        WavePlan early = new WavePlan();
        early.image();
        due("an image of no wants is one", early.restore(), 0);
        early.mast(0, 0, 0, 1);
        early.set(0, 3);
        due("it has no want", early.restore(), 0);
        due("so it keeps its own", early.channel(0), 3);
        WavePlan none = line(1);
        none.image();
        none.set(0, 3);
        due("an image of none is one", none.restore(), 1);
        due("none", none.channel(0), -2);
    }

    private static void countFull() {
        WavePlan empty = new WavePlan();
        for (int what = 0; what <= 6; what++) {
            due("of nothing", empty.count(what), 0);
        }
        WavePlan x = sixteenWants();
        for (int i = 0; i < 8; i++) {
            x.row(0, 0, 0);
        }
        x.set(0, 0);
        x.set(15, 29);
        int[] without = {12, 16, 8, 0, 0, 12, 2};
        for (int what = 0; what < without.length; what++) {
            due("with bars of 0, count(" + what + ")", x.count(what), without[what]);
        }
        WavePlan y = sixteenWants();
        y.row(0, 0, 1);
        y.own(0, 0);
        int[] with = {12, 16, 1, 66, 220, 1, 0};
        for (int what = 0; what < with.length; what++) {
            due("all at one place, count(" + what + ")", y.count(what), with[what]);
        }
        y.move(11, at(0, 1));
        int[] less = {12, 16, 1, 55, 165, 2, 0};
        for (int what = 0; what < less.length; what++) {
            due("but one, count(" + what + ")", y.count(what), less[what]);
        }
    }

    private static void countOthers() {
        WavePlan x = line(2);
        for (int what : new int[] {-1, -2, 7, 8, MIN, MAX}) {
            due("count(" + what + ")", x.count(what), -1);
        }
    }

    private static void lookAtAll() {
        WavePlan x = new WavePlan();
        x.mast(PLAIN, at(0, 60), 0, 3);
        x.mast(PAIR, at(60, 0), 3, 1);
        x.mast(OLD, at(1, 2), 2, 2);
        x.mast(BORDER, at(60, 60), 1, 1);
        x.gap(1, 10);
        x.list(0, 0);
        x.list(3, only(29));
        int[][] all = {
            {0, 0, 60, 0, 3, 0, 0, -2}, {1, 60, 0, 3, 1, 3, 30, 10}, {2, 1, 2, 2, 2, 4, 30, -2}, {3, 60, 60, 1, 1, 6, 1, -2}
        };
        for (int m = 0; m < 4; m++) {
            for (int what = 0; what < 8; what++) {
                due("look(" + m + ", " + what + ")", x.look(m, what), all[m][what]);
            }
        }
    }

    private static void lookRefused() {
        WavePlan x = line(1);
        for (int what : new int[] {-1, 8, 9, MIN, MAX}) {
            due("what " + what, x.look(0, what), -1);
        }
        for (int m : new int[] {-1, 1, 11, 12, MIN, MAX}) {
            due("mast " + m, x.look(m, 0), -1);
            due("mast " + m + ", no D", x.look(m, 7), -1);
        }
    }

    private static void sayShelves() {
        promise("33: keep").says("what = 0 nothing; 1 MAST k", EdgesTest::keepMasts)
                .says("3 a ROW of bytes: the channels of all WANTS (-2: none)", EdgesTest::keepChannels)
                .says("4 a ROW of longs: SQUARES of MAST k and all MASTS (itself, too), by numbers: 0.", EdgesTest::keepSquares)
                .says("-1.", EdgesTest::keepRefused);
        promise("34: make").says("SHELF d gets a ROW of n bytes, or longs, 0 (what 3, 4; n up to 60): 0.", EdgesTest::makeRange)
                .says("-1; -14: n is below 0.", EdgesTest::makeRefused);
        promise("35: element").says("Element i, from 0, of the ROW on SHELF d.", EdgesTest::elementRange)
                .says("IllegalArgumentException: no such SHELF", EdgesTest::elementNoShelf)
                .says("IllegalStateException: nothing is held, it is no ROW, or has no such place.", EdgesTest::elementNone);
        promise("36: copy").says("n elements of the ROW on SHELF d, from place i, come to the ROW on SHELF e, from place j",
                        EdgesTest::copyPlaces)
                .says("(as they all were before): n.", EdgesTest::copyAsBefore)
                .says("-1; -11: of either", EdgesTest::copyNothing)
                .says("-12: one is no ROW, or they are not of one kind", EdgesTest::copyKinds)
                .says("-13: n, i or j is below 0, or beyond either's end.", EdgesTest::copyBeyond);
        promise("37: weight").says("its number, 5 for each of its WANTS, and POWER; of PAIRS D more; of OLD ones 100 more; "
                        + "of BORDER ones twice what it would have as PLAIN.", EdgesTest::weightEdges)
                .says("-1, -11, -12.", EdgesTest::weightRefused);
        promise("38: toss").says("The FAILURE of the MAST on SHELF d is thrown, and caught: its number.", EdgesTest::tossNumbers)
                .says("-1, -11, -12; -15: PLAIN ones have none.", EdgesTest::tossRefused);
    }

    private static void keepMasts() {
        WavePlan x = line(12);
        due("the last mast on the last shelf", x.keep(7, 1, 11), 0);
        due("it is 11", x.weight(7), 16);
        due("nothing", x.keep(7, 0, 0), 0);
        due("is held", x.weight(7), -11);
        due("nothing on nothing", x.keep(7, 0, 0), 0);
        due("k is nothing to it", x.keep(7, 0, -1), 0);
        x.make(7, 4, 2);
        due("a mast for a row", x.keep(7, 1, 0), 0);
        due("it is no row", thrown(x, 7, 0), 2);
        x.keep(7, 3, 0);
        due("a row for a mast", x.weight(7), -12);
    }

    private static void keepChannels() {
        WavePlan x = new WavePlan();
        due("without wants", x.keep(0, 3, 0), 0);
        dueRow("no elements", x, 0);
        due("a row all the same", x.weight(0), -12);
        x.mast(PLAIN, 0, 0, 3);
        due("k is nothing to it", x.keep(1, 3, 99), 0);
        setAll(x, 0, -1, 29);
        x.keep(2, 3, 0);
        setAll(x, 1, 2, 3);
        x.mast(PLAIN, 0, 0, 1);
        dueRow("none has any", x, 1, -2, -2, -2);
        dueRow("as they were then", x, 2, 0, -2, 29);
        dueRow("still no elements", x, 0);
        WavePlan full = sixteenWants();
        full.set(15, 8);
        full.keep(0, 3, 0);
        dueRow("all sixteen", full, 0, -2, -2, -2, -2, -2, -2, -2, -2, -2, -2, -2, -2, -2, -2, -2, 8);
    }

    private static void keepSquares() {
        WavePlan x = new WavePlan();
        x.mast(0, at(0, 0), 0, 1);
        x.keep(0, 4, 0);
        x.mast(0, at(60, 60), 0, 1);
        x.mast(0, at(3, 56), 0, 1);
        due("of the first", x.keep(1, 4, 0), 0);
        due("of the last", x.keep(2, 4, 2), 0);
        x.move(0, at(60, 60));
        dueRow("alone", x, 0, 0);
        dueRow("of the first, then", x, 1, 0, 7200, 3145);
        dueRow("of the last, then", x, 2, 3145, 3265, 0);
        WavePlan full = line(12);
        full.keep(0, 4, 11);
        dueRow("all twelve", full, 0, 121, 100, 81, 64, 49, 36, 25, 16, 9, 4, 1, 0);
    }

    private static void keepRefused() {
        WavePlan x = line(1);
        x.make(0, 3, 1);
        due("shelf 8", x.keep(8, 0, 0), -1);
        due("shelf -1", x.keep(-1, 1, 0), -1);
        for (int what : new int[] {-1, 2, 5, MIN, MAX}) {
            due("what " + what, x.keep(0, what, 0), -1);
        }
        for (int k : new int[] {-1, 1, 12, MIN, MAX}) {
            due("mast " + k, x.keep(0, 1, k), -1);
            due("squares of " + k, x.keep(0, 4, k), -1);
        }
        dueRow("it holds the same", x, 0, 0);
    }

    private static void makeRange() {
        WavePlan x = line(2);
        setAll(x, 7, 8);
        x.keep(0, 3, 0);
        x.keep(1, 4, 0);
        due("60 bytes", x.make(0, 3, 60), 0);
        due("60 longs", x.make(1, 4, 60), 0);
        for (int i = 0; i < 60; i++) {
            due("byte " + i, x.element(0, i), 0);
            due("long " + i, x.element(1, i), 0);
        }
        due("no byte 60", thrown(x, 0, 60), 2);
        due("no long 60", thrown(x, 1, 60), 2);
        due("one kind", x.copy(0, 0, 1, 0, 1), -12);
        due("none", x.make(0, 4, 0), 0);
        due("no element", thrown(x, 0, 0), 2);
        due("longs now", x.copy(1, 60, 0, 0, 0), 0);
        due("shelf 7", x.make(7, 3, 1), 0);
        dueRow("one", x, 7, 0);
    }

    private static void makeRefused() {
        WavePlan x = line(1);
        x.keep(0, 1, 0);
        due("61", x.make(0, 3, 61), -1);
        due("greatest", x.make(0, 4, MAX), -1);
        for (int what : new int[] {-1, 0, 1, 2, 5, MIN, MAX}) {
            due("what " + what, x.make(0, what, 1), -1);
            due("what " + what + " and n", x.make(0, what, -1), -1);
        }
        due("shelf 8", x.make(8, 3, 1), -1);
        due("shelf -1 and n", x.make(-1, 3, -1), -1);
        due("-1", x.make(0, 3, -1), -14);
        due("least", x.make(0, 4, MIN), -14);
        due("it holds the same", x.weight(0), 5);
    }

    private static void elementRange() {
        WavePlan x = line(2);
        x.set(1, 29);
        x.keep(0, 3, 0);
        due("a byte below 0", x.element(0, 0), -2);
        due("the last byte", x.element(0, 1), 29);
        x.move(1, at(60, 60));
        x.keep(7, 4, 0);
        due("a long beyond bytes", x.element(7, 1), 7200);
    }

    private static void elementNoShelf() {
        WavePlan x = new WavePlan();
        x.make(0, 3, 1);
        x.make(7, 3, 1);
        due("shelf 0", thrown(x, 0, 0), 0);
        due("shelf 7", thrown(x, 7, 0), 0);
        for (int d : new int[] {-1, 8, MIN, MAX}) {
            due("shelf " + d, thrown(x, d, 0), 1);
            due("shelf " + d + ", no place", thrown(x, d, -1), 1);
        }
    }

    private static void elementNone() {
        WavePlan x = line(1);
        due("nothing", thrown(x, 3, 0), 2);
        x.keep(3, 1, 0);
        due("a mast", thrown(x, 3, 0), 2);
        for (int what = 3; what <= 4; what++) {
            x.make(3, what, 2);
            due("place 1", thrown(x, 3, 1), 0);
            for (int i : new int[] {-1, 2, 59, 60, MIN, MAX}) {
                due("place " + i, thrown(x, 3, i), 2);
            }
        }
        x.keep(3, 0, 0);
        due("no more", thrown(x, 3, 0), 2);
    }

    private static WavePlan rows() {
        WavePlan x = line(5);
        setAll(x, 10, 11, 12, 13, 14);
        x.keep(0, 3, 0);
        x.make(1, 3, 3);
        x.keep(2, 4, 0);
        x.make(3, 4, 2);
        x.keep(4, 1, 0);
        return x;
    }

    private static void copyPlaces() {
        WavePlan x = rows();
        due("the first", x.copy(0, 0, 1, 2, 1), 1);
        dueRow("to the last", x, 1, 0, 0, 10);
        due("the last", x.copy(0, 4, 1, 0, 1), 1);
        dueRow("to the first", x, 1, 14, 0, 10);
        due("all that there are", x.copy(0, 1, 1, 0, 3), 3);
        dueRow("all", x, 1, 11, 12, 13);
        dueRow("those they came from stay", x, 0, 10, 11, 12, 13, 14);
        due("longs", x.copy(2, 3, 3, 0, 2), 2);
        dueRow("long ones", x, 3, 9, 16);
        due("none", x.copy(0, 0, 1, 0, 0), 0);
        due("none at both ends", x.copy(0, 5, 1, 3, 0), 0);
        dueRow("as they were", x, 1, 11, 12, 13);
        dueChannels("the plan is none of it", x, 10, 11, 12, 13, 14);
    }

    private static void copyAsBefore() {
        WavePlan up = rows();
        due("upwards", up.copy(0, 0, 0, 1, 4), 4);
        dueRow("each as before", up, 0, 10, 10, 11, 12, 13);
        WavePlan down = rows();
        due("downwards", down.copy(0, 1, 0, 0, 4), 4);
        dueRow("each as before, too", down, 0, 11, 12, 13, 14, 14);
        WavePlan same = rows();
        due("onto itself", same.copy(0, 0, 0, 0, 5), 5);
        dueRow("no change", same, 0, 10, 11, 12, 13, 14);
        WavePlan longs = rows();
        due("longs upwards", longs.copy(2, 0, 2, 2, 3), 3);
        dueRow("each long as before", longs, 2, 0, 1, 0, 1, 4);
    }

    private static void copyNothing() {
        WavePlan x = rows();
        due("shelf 8 from", x.copy(8, 0, 0, 0, 1), -1);
        due("shelf -1 from", x.copy(-1, 0, 0, 0, 1), -1);
        due("shelf 8 to", x.copy(0, 0, 8, 0, 1), -1);
        due("shelf -1 to", x.copy(0, 0, -1, 0, 1), -1);
        due("nothing on the first", x.copy(7, 0, 0, 0, 1), -11);
        due("nothing on the second", x.copy(0, 0, 7, 0, 1), -11);
        due("nothing on either", x.copy(6, 0, 7, 0, 0), -11);
        due("nothing on the first, a mast on the second", x.copy(7, 0, 4, 0, 0), -11);
        due("a mast on the first, nothing on the second", x.copy(4, 0, 7, 0, 0), -11);
    }

    private static void copyKinds() {
        WavePlan x = rows();
        due("a mast on the first", x.copy(4, 0, 0, 0, 0), -12);
        due("a mast on the second", x.copy(0, 0, 4, 0, 0), -12);
        due("a mast on both", x.copy(4, 0, 4, 0, 0), -12);
        due("bytes to longs", x.copy(0, 0, 2, 0, 1), -12);
        due("longs to bytes", x.copy(2, 0, 0, 0, 1), -12);
        due("longs to a mast", x.copy(2, 0, 4, 0, 0), -12);
        due("another kind, and places that aren't", x.copy(0, -1, 2, 99, -1), -12);
    }

    private static void copyBeyond() {
        WavePlan x = rows();
        int[][] beyond = {
            {0, 0, -1}, {-1, 0, 1}, {0, -1, 1}, {-1, 0, 0}, {0, -1, 0}, {-1, -1, -1},
            {5, 0, 1}, {6, 0, 0}, {4, 0, 2}, {0, 3, 1}, {0, 4, 0}, {0, 2, 2}, {0, 0, 4}, {0, 0, 6},
            {1, 0, MAX}, {0, 1, MAX}, {MAX, 0, 1}, {0, MAX, 1}, {MAX, MAX, MAX}, {0, 0, MIN}, {MIN, 0, 1}, {0, MIN, 1}, {1, 1, MIN}
        };
        for (int[] b : beyond) {
            due("i " + b[0] + ", j " + b[1] + ", n " + b[2], x.copy(0, b[0], 1, b[1], b[2]), -13);
        }
        dueRow("as it was", x, 1, 0, 0, 0);
        due("just to both ends", x.copy(0, 2, 1, 0, 3), 3);
        due("the longer one to the shorter, too far", x.copy(0, 0, 1, 0, 5), -13);
        due("the shorter one to the longer, too far", x.copy(1, 0, 0, 0, 4), -13);
        x.make(5, 3, 0);
        due("none of none", x.copy(5, 0, 5, 0, 0), 0);
        due("one of none", x.copy(5, 0, 5, 0, 1), -13);
        due("place 1 of none", x.copy(5, 1, 5, 0, 0), -13);
    }

    private static void weightEdges() {
        WavePlan x = new WavePlan();
        int[][] masts = {{PLAIN, 0, 1}, {PLAIN, 3, 3}, {PAIR, 0, 1}, {PAIR, 3, 1}, {OLD, 0, 1}, {OLD, 3, 2}, {BORDER, 0, 1}, {BORDER, 3, 2}};
        for (int[] m : masts) {
            x.mast(m[0], 0, m[1], m[2]);
        }
        x.gap(2, 1);
        x.gap(3, 10);
        int[] weights = {5, 1 + 15 + 3, 2 + 5 + 1, 3 + 5 + 3 + 10, 4 + 5 + 100, 5 + 10 + 3 + 100, 2 * (6 + 5), 2 * (7 + 10 + 3)};
        for (int m = 0; m < weights.length; m++) {
            x.keep(m, 1, m);
            due("weight of " + m, x.weight(m), weights[m]);
        }
    }

    private static void weightRefused() {
        WavePlan x = line(1);
        for (int d : new int[] {-1, 8, MIN, MAX}) {
            due("shelf " + d, x.weight(d), -1);
        }
        due("nothing", x.weight(7), -11);
        x.make(7, 3, 0);
        due("bytes", x.weight(7), -12);
        x.make(7, 4, 1);
        due("longs", x.weight(7), -12);
        x.keep(7, 0, 0);
        due("nothing again", x.weight(7), -11);
    }

    private static void tossNumbers() {
        WavePlan x = heap(BORDER, PAIR, PAIR, PLAIN, BORDER, OLD, PAIR, PLAIN, PLAIN, PLAIN, PLAIN, OLD);
        int[] masts = {0, 1, 2, 4, 5, 6, 11};
        for (int d = 0; d < masts.length; d++) {
            x.keep(d, 1, masts[d]);
            due("toss of mast " + masts[d], x.toss(d), masts[d]);
            due("it is still there", x.toss(d), masts[d]);
        }
    }

    private static void tossRefused() {
        WavePlan x = line(12);
        for (int d : new int[] {-1, 8, MIN, MAX}) {
            due("shelf " + d, x.toss(d), -1);
        }
        due("nothing", x.toss(7), -11);
        x.make(7, 3, 0);
        due("bytes", x.toss(7), -12);
        x.make(7, 4, 1);
        due("longs", x.toss(7), -12);
        x.keep(7, 1, 0);
        due("plain 0", x.toss(7), -15);
        x.keep(7, 1, 11);
        due("plain 11", x.toss(7), -15);
    }
}
