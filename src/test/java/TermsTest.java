/** The sentences of the document's "Terms" that name a boundary case; the answers are worked out by hand. */
public final class TermsTest extends Offices {
    public static void main(String[] args) {
        Sentences terms = new Sentences(CHECK, "Terms");
        sayMasts(terms);
        sayBars(terms);
        sayBorder(terms);
        sayBroken(terms);
        sayTries(terms);
        sayBetter(terms);
        sayCrowds(terms);
        sayShelves(terms);
        CHECK.finish();
    }

    private static void sayMasts(Sentences terms) {
        terms.says("CHANNELS are 0 .. 29.", TermsTest::channels)
                .says("MASTS are 0 .. 11, as they come", TermsTest::masts)
                .says("each at a place (x, y: 0 .. 60 each)", TermsTest::places)
                .says("with a POWER (0 .. 3)", TermsTest::powers)
                .says("a LIST of channels (all at first)", TermsTest::lists)
                .says("WANTS (1 to 3; 16 of all MASTS at most)", TermsTest::wants)
                .says("and a KIND: 0 PLAIN; 1 PAIR", TermsTest::kinds)
                .says("D its own (1 .. 10; 5 at first)", TermsTest::gapsOfTheirOwn)
                .says("2 OLD: a WANT may be told to stay on a channel", TermsTest::oldOnes)
                .says("3 BORDER: as PLAIN, but see below", TermsTest::borderAsPlain)
                .says("WANTS are numbered, MAST by MAST as they came, from 0; the ones of a MAST one behind the other.",
                        TermsTest::wantNumbers)
                .says("SQUARE of two MASTS: of their places' distance.", TermsTest::squares);
    }

    private static void channels() {
        WavePlan x = line(1);
        due("set 0", x.set(0, 0), -2);
        due("set 29", x.set(0, 29), 0);
        due("set 30", x.set(0, 30), -1);
        due("set below", x.set(0, -2), -1);
        due("still 29", x.channel(0), 29);
        due("may 0", x.may(0, 0), 1);
        due("may 29", x.may(0, 29), 1);
        due("may -1", x.may(0, -1), 0);
        due("may 30", x.may(0, 30), 0);
        x.list(0, only(29));
        due("no plan below 29", x.plan(29), 0);
        due("a plan with 29", x.plan(30), 1);
        due("planned", x.channel(0), 29);
        x.set(0, 0);
        due("better on 29", x.better(1), 1);
        due("bettered", x.channel(0), 29);
        x.set(0, 0);
        due("changed to 29", x.fewest(1), 1);
        due("so changed", x.channel(0), 29);
        x.list(0, only(0));
        due("changed to 0", x.fewest(1), 1);
        due("so changed, too", x.channel(0), 0);
    }

    private static void masts() {
        WavePlan x = new WavePlan();
        due("0 isn't there yet", x.look(0, 0), -1);
        for (int i = 0; i < 12; i++) {
            due("as it comes", x.mast(i % 4, at(i, 0), 0, 1), i);
            due("the next isn't there", x.look(i + 1, 0), -1);
        }
        due("a thirteenth", x.mast(0, 0, 0, 1), -2);
        due("kind of 11", x.look(11, 0), 3);
        due("x of 11", x.look(11, 1), 11);
        due("12 is none", x.look(12, 0), -1);
        due("-1 is none", x.look(-1, 0), -1);
    }

    private static void places() {
        WavePlan x = new WavePlan();
        int[][] corners = {{0, 0}, {0, 60}, {60, 0}, {60, 60}};
        for (int m = 0; m < 4; m++) {
            due("a corner", x.mast(0, at(corners[m][0], corners[m][1]), 0, 1), m);
            due("its x", x.look(m, 1), corners[m][0]);
            due("its y", x.look(m, 2), corners[m][1]);
        }
        int[] outside = {
            at(0, 61), at(0, 62), at(0, 63), at(60, 61), at(60, 63), at(61, 0), at(61, 60), at(62, 0), at(63, 0), at(63, 63),
            at(64, 0), -1, -3, -4, -60, -63, -64, at(-1, 60), MIN, MIN + 1, MAX, MAX - 63
        };
        for (int place : outside) {
            due("a mast at " + place, x.mast(0, place, 0, 1), -1);
            due("a move to " + place, x.move(3, place), -1);
        }
        due("no mast came", x.count(0), 4);
        due("none went, x", x.look(3, 1), 60);
        due("none went, y", x.look(3, 2), 60);
    }

    private static void powers() {
        WavePlan x = new WavePlan();
        due("-1", x.mast(0, 0, -1, 1), -1);
        due("0", x.mast(0, 0, 0, 1), 0);
        due("3", x.mast(0, 0, 3, 1), 1);
        due("4", x.mast(0, 0, 4, 1), -1);
        due("least", x.mast(0, 0, MIN, 1), -1);
        due("greatest", x.mast(0, 0, MAX, 1), -1);
        due("power 0", x.look(0, 3), 0);
        due("power 3", x.look(1, 3), 3);
    }

    private static void lists() {
        WavePlan x = line(2);
        x.list(0, 0);
        due("of all", x.look(1, 6), 30);
        for (int c = 0; c < 30; c++) {
            due("may " + c, x.may(1, c), 1);
            due("the other's is empty: " + c, x.may(0, c), 0);
        }
    }

    private static void wants() {
        WavePlan x = new WavePlan();
        due("none", x.mast(0, 0, 0, 0), -1);
        due("below", x.mast(0, 0, 0, -1), -1);
        due("four", x.mast(0, 0, 0, 4), -1);
        due("greatest", x.mast(0, 0, 0, MAX), -1);
        due("three", x.mast(0, 0, 0, 3), 0);
        for (int m = 1; m < 5; m++) {
            x.mast(0, 0, 0, 3);
        }
        due("15 so far", x.count(1), 15);
        due("17 would be", x.mast(0, 0, 0, 2), -2);
        due("18 would be", x.mast(0, 0, 0, 3), -2);
        due("16", x.mast(0, 0, 0, 1), 5);
        due("17", x.mast(0, 0, 0, 1), -2);
        due("16 they are", x.count(1), 16);
        due("the last one", x.of(15), 5);
        due("one more", x.of(16), -1);
    }

    private static void kinds() {
        WavePlan x = new WavePlan();
        due("-1", x.mast(-1, 0, 0, 1), -1);
        due("4", x.mast(4, 0, 0, 1), -1);
        due("least", x.mast(MIN, 0, 0, 1), -1);
        due("greatest", x.mast(MAX, 0, 0, 1), -1);
        for (int kind = 0; kind < 4; kind++) {
            due("kind " + kind, x.mast(kind, 0, 0, 1), kind);
            due("it is " + kind, x.look(kind, 0), kind);
        }
    }

    private static void gapsOfTheirOwn() {
        WavePlan x = heap(PAIR, PAIR);
        due("5 at first", x.look(0, 7), 5);
        due("c + 5 is 29", x.may(0, 24), 1);
        due("c + 5 is 30", x.may(0, 25), 0);
        due("0", x.gap(0, 0), -1);
        due("11", x.gap(0, 11), -1);
        due("10", x.gap(0, 10), 5);
        due("c + 10 is 29", x.may(0, 19), 1);
        due("c + 10 is 30", x.may(0, 20), 0);
        due("1", x.gap(0, 1), 10);
        due("c + 1 is 29", x.may(0, 28), 1);
        due("c + 1 is 30", x.may(0, 29), 0);
        due("the other's is its own", x.look(1, 7), 5);
        due("the other's c + 5", x.may(1, 25), 0);
    }

    private static void oldOnes() {
        WavePlan x = heap(PLAIN, PAIR, BORDER);
        x.mast(OLD, 0, 0, 3);
        for (int w = 0; w < 3; w++) {
            due("want " + w + " isn't of an old one", x.stay(w, 4), -1);
            due("nor to be told of none", x.stay(w, -1), -1);
            due("it may have others", x.may(w, 5), 1);
        }
        due("at first it may have any", x.may(4, 5), 1);
        due("told", x.stay(4, 4), 0);
        due("no other", x.may(4, 5), 0);
        due("the one before it", x.may(3, 5), 1);
        due("the one behind it", x.may(5, 5), 1);
    }

    private static void borderAsPlain() {
        WavePlan x = heap(BORDER, BORDER);
        x.row(0, 0, 1);
        due("any channel", x.may(0, 29), 1);
        due("no D", x.look(0, 7), -2);
        due("no D to tell", x.gap(0, 5), -1);
        due("none to stay", x.stay(0, 5), -1);
        setAll(x, 0, 5);
        due("one channel each", x.span(), 5);
        due("no second one", x.harm(), 0);
        due("kept", x.kept(), 1);
    }

    private static void wantNumbers() {
        WavePlan x = new WavePlan();
        x.mast(PAIR, 0, 0, 2);
        x.mast(OLD, 0, 0, 1);
        x.mast(PLAIN, 0, 0, 3);
        int[] masts = {0, 0, 1, 2, 2, 2};
        for (int w = 0; w < masts.length; w++) {
            due("of(" + w + ")", x.of(w), masts[w]);
        }
        due("first of 0", x.look(0, 5), 0);
        due("first of 1", x.look(1, 5), 2);
        due("first of 2", x.look(2, 5), 3);
    }

    private static void squares() {
        WavePlan x = new WavePlan();
        x.mast(0, at(0, 0), 0, 1);
        x.mast(0, at(60, 60), 0, 1);
        x.mast(0, at(0, 60), 0, 1);
        x.mast(0, at(59, 58), 0, 1);
        x.keep(0, 4, 1);
        dueRow("of the last corner", x, 0, 7200, 0, 3600, 5);
        x.row(7199, 0, 2);
        due("a row a little too short", x.bar(0, 1), 0);
        x.row(7200, 0, 1);
        due("a row just long enough", x.bar(0, 1), 1);
    }

    private static void sayBars(Sentences terms) {
        terms.says("THE TABLE has ROWS (at most 8): a limit, a power, and n (0 .. 4).", TermsTest::table)
                .says("the greatest n of the ROWS whose limit isn't below their SQUARE", TermsTest::limits)
                .says("whose power isn't above both POWERS together", TermsTest::powersTogether)
                .says("(0 without any)", TermsTest::withoutRows)
                .says("that of a MAST and itself (OWN) is told (0 .. 6; 2 at first)", TermsTest::ownBar)
                .says("SUMS reach so far as told (a square; -1: there are none, at first)", TermsTest::sumReach)
                .says("THREE MASTS a, b, c, no two the same, each two of SQUARE at most that, ARE IN it.",
                        TermsTest::threeIn);
    }

    private static void table() {
        WavePlan x = heap(PLAIN, PLAIN);
        due("n -1", x.row(0, 0, -1), -1);
        due("n 5", x.row(0, 0, 5), -1);
        due("n 0", x.row(0, 0, 0), 1);
        due("a bar of 0", x.bar(0, 1), 0);
        due("n 4", x.row(0, 0, 4), 2);
        due("a bar of 4", x.bar(0, 1), 4);
        for (int i = 3; i <= 8; i++) {
            due("row " + i, x.row(0, 0, 1), i);
        }
        due("a ninth", x.row(0, 0, 1), -2);
        due("8 they are", x.count(2), 8);
    }

    private static void limits() {
        WavePlan x = new WavePlan();
        x.mast(0, at(10, 10), 0, 1);
        x.mast(0, at(13, 14), 0, 1);
        x.row(24, 0, 4);
        due("a limit below the square", x.bar(0, 1), 0);
        x.row(25, 0, 2);
        due("a limit that is the square", x.bar(0, 1), 2);
        due("the other way round", x.bar(1, 0), 2);
        x.row(26, 0, 3);
        due("a limit above, a greater n", x.bar(0, 1), 3);
        x.row(10000, 0, 1);
        due("a later one with a lesser n", x.bar(0, 1), 3);
        x.row(10000, 0, 0);
        due("one with n 0", x.bar(0, 1), 3);
        x.row(0, 0, 4);
        due("a limit of 0, elsewhere", x.bar(0, 1), 3);
        x.move(1, at(10, 10));
        due("a limit of 0, at one place", x.bar(0, 1), 4);
    }

    private static void powersTogether() {
        WavePlan x = new WavePlan();
        x.mast(0, 0, 3, 1);
        x.mast(0, 0, 3, 1);
        x.mast(0, 0, 2, 1);
        x.mast(0, 0, 0, 1);
        x.mast(0, 0, 0, 1);
        x.row(0, 6, 4);
        due("6 of 3 and 3", x.bar(0, 1), 4);
        due("6 of 3 and 2", x.bar(0, 2), 0);
        x.row(0, 5, 3);
        due("5 of 3 and 2", x.bar(2, 1), 3);
        due("5 of 3 and 0", x.bar(0, 3), 0);
        x.row(0, 3, 2);
        due("3 of 3 and 0", x.bar(0, 3), 2);
        due("3 of 2 and 0", x.bar(2, 3), 0);
        due("3 of none", x.bar(3, 4), 0);
        x.row(0, 0, 1);
        due("0 of none", x.bar(3, 4), 1);
        due("the greatest still", x.bar(0, 1), 4);
    }

    private static void withoutRows() {
        WavePlan x = new WavePlan();
        x.mast(0, 0, 3, 1);
        x.mast(0, 0, 3, 1);
        due("no rows", x.bar(0, 1), 0);
        setAll(x, 7, 7);
        due("nothing is broken", x.harm(), 0);
    }

    private static void ownBar() {
        WavePlan x = new WavePlan();
        x.mast(0, 0, 3, 2);
        x.mast(0, 0, 3, 1);
        due("2 at first", x.bar(0, 0), 2);
        due("-1", x.own(-1, -1), -1);
        due("7", x.own(7, -1), -1);
        x.row(10000, 0, 4);
        due("rows are nothing to it", x.bar(0, 0), 2);
        due("6", x.own(6, -1), 0);
        due("of the first", x.bar(0, 0), 6);
        due("of the second", x.bar(1, 1), 6);
        due("two at one place are by the table", x.bar(0, 1), 4);
        due("0", x.own(0, -1), 0);
        due("none of its own", x.bar(0, 0), 0);
        setAll(x, 5, 5, 9);
        due("two wants on one channel", x.harm(), 0);
    }

    private static void sumReach() {
        WavePlan x = heap(PLAIN, PLAIN, PLAIN);
        setAll(x, 3, 3, 3);
        due("none at first", x.count(4), 0);
        due("no harm at first", x.harm(), 0);
        x.own(2, 0);
        due("0: at one place", x.count(4), 1);
        due("harm", x.harm(), 15);
        x.own(2, -1);
        due("-1: none", x.count(4), 0);
        due("no harm", x.harm(), 0);
        x.move(1, at(60, 60));
        x.own(2, 7199);
        due("not so far", x.count(4), 0);
        x.own(2, 7200);
        due("so far", x.count(4), 1);
        due("10000", x.own(2, 10000), 0);
        due("from end to end", x.count(4), 1);
        due("10001", x.own(2, 10001), -1);
        due("-2", x.own(2, -2), -1);
    }

    private static void threeIn() {
        int[][] places = {{0, 0}, {3, 0}, {0, 4}};
        int[][] orders = {{0, 1, 2}, {0, 2, 1}, {1, 0, 2}, {1, 2, 0}, {2, 0, 1}, {2, 1, 0}};
        for (int[] order : orders) {
            WavePlan x = new WavePlan();
            for (int i : order) {
                x.mast(0, at(places[i][0], places[i][1]), 0, 1);
            }
            setAll(x, 1, 2, 3);
            x.own(2, 24);
            due("two of the three are too far", x.count(4), 0);
            due("so there is no sum", x.broken(2), 0);
            x.own(2, 25);
            due("each two just near enough", x.count(4), 1);
            due("so there is a sum", x.broken(2), 1);
        }
        WavePlan one = new WavePlan();
        one.mast(0, 0, 0, 3);
        one.own(0, 10000);
        setAll(one, 1, 2, 3);
        due("three of one mast", one.broken(2), 0);
        WavePlan two = new WavePlan();
        two.mast(0, 0, 0, 2);
        two.mast(0, 0, 0, 2);
        two.own(0, 10000);
        setAll(two, 1, 2, 3, 0);
        due("three of two masts", two.broken(2), 0);
        due("two are not three", two.count(4), 0);
    }

    private static void sayBorder(Sentences terms) {
        terms.says("a LINE x (-1: none, at first), a WIDTH, two sets of channels.", TermsTest::noLine)
                .says("A BORDER MAST whose x differs from LINE by at most WIDTH", TermsTest::width)
                .says("may have only channels of the first set, if its x is below LINE, of the second one else.",
                        TermsTest::sides)
                .says("(Its LIST holds, too.)", TermsTest::listAtTheBorder)
                .says("A WANT MAY have a channel c, if c is 0 .. 29 and of its MAST's LIST", TermsTest::mayByList)
                .says("(of a PAIR: c + D, too)", TermsTest::mayByListOfPair)
                .says("and it is no other than that on which it is told to stay.", TermsTest::mayByStay)
                .says("each WANT has a channel, or none (at first)", TermsTest::noneAtFirst)
                .says("CHANNELS OF a WANT: c, of a PAIR c + D, too.", TermsTest::channelsOf);
    }

    private static void noLine() {
        WavePlan x = new WavePlan();
        x.mast(BORDER, at(0, 0), 0, 1);
        due("none at first", x.may(0, 7), 1);
        x.border(0, 0, 0, 0);
        due("line 0", x.may(0, 7), 0);
        x.border(-1, 60, 0, 0);
        due("line -1, though x differs by 1 from -1", x.may(0, 7), 1);
    }

    private static void width() {
        WavePlan x = new WavePlan();
        int[] places = {7, 8, 9, 10, 11, 12, 13};
        for (int p : places) {
            x.mast(BORDER, at(p, 60), 0, 1);
        }
        x.border(10, 2, 0, 0);
        int[] free = {1, 0, 0, 0, 0, 0, 1};
        for (int m = 0; m < places.length; m++) {
            due("width 2, x " + places[m], x.may(m, 3), free[m]);
        }
        x.border(10, 0, 0, 0);
        for (int m = 0; m < places.length; m++) {
            due("width 0, x " + places[m], x.may(m, 3), places[m] == 10 ? 0 : 1);
        }
        x.move(0, at(0, 0));
        x.move(1, at(60, 0));
        x.border(60, 60, 0, ALL);
        due("width 60 reaches from 60 to 0", x.may(0, 3), 0);
        x.border(60, 59, 0, ALL);
        due("width 59 doesn't", x.may(0, 3), 1);
        x.border(0, 60, ALL, 0);
        due("width 60 reaches from 0 to 60", x.may(1, 3), 0);
        x.border(0, 59, ALL, 0);
        due("width 59 doesn't either", x.may(1, 3), 1);
    }

    private static void sides() {
        WavePlan x = new WavePlan();
        x.mast(BORDER, at(29, 0), 0, 1);
        x.mast(BORDER, at(30, 0), 0, 1);
        x.mast(BORDER, at(31, 0), 0, 1);
        x.mast(PLAIN, at(30, 0), 0, 1);
        x.mast(PAIR, at(30, 0), 0, 1);
        x.mast(OLD, at(30, 0), 0, 1);
        x.border(30, 1, only(0, 29), only(1, 28));
        int[][] may = {{1, 0, 0, 1}, {0, 1, 1, 0}, {0, 1, 1, 0}};
        int[] channels = {0, 1, 28, 29};
        for (int m = 0; m < 3; m++) {
            for (int i = 0; i < 4; i++) {
                due("mast " + m + " on " + channels[i], x.may(m, channels[i]), may[m][i]);
            }
            due("mast " + m + " on one of neither", x.may(m, 5), 0);
        }
        for (int m = 3; m < 6; m++) {
            due("mast " + m + " is no border one", x.may(m, 5), 1);
        }
    }

    private static void listAtTheBorder() {
        WavePlan x = heap(BORDER);
        x.border(0, 0, 0, only(1, 2));
        x.list(0, only(2, 3));
        due("of neither", x.may(0, 0), 0);
        due("of the set alone", x.may(0, 1), 0);
        due("of both", x.may(0, 2), 1);
        due("of the list alone", x.may(0, 3), 0);
    }

    private static void mayByList() {
        WavePlan x = heap(PLAIN);
        x.list(0, only(0, 29));
        for (int c = 0; c < 30; c++) {
            due("may " + c, x.may(0, c), c == 0 || c == 29 ? 1 : 0);
        }
        // shifts by these would wrap round to channels of the list
        for (int c : new int[] {-1, -3, -32, 30, 32, 61, 64, MIN, MAX, MIN + 29}) {
            due("no channel " + c, x.may(0, c), 0);
        }
    }

    private static void mayByListOfPair() {
        WavePlan x = heap(PAIR);
        x.list(0, only(0, 5, 10, 29));
        for (int c = 0; c < 30; c++) {
            due("may " + c, x.may(0, c), c == 0 || c == 5 ? 1 : 0);
        }
        x.list(0, only(24, 29));
        due("c + D is 29", x.may(0, 24), 1);
        x.list(0, ALL);
        due("c + D is 29, of all", x.may(0, 24), 1);
        due("c + D is 30", x.may(0, 25), 0);
        due("c + D is 34", x.may(0, 29), 0);
    }

    private static void mayByStay() {
        WavePlan x = heap(OLD);
        x.stay(0, 29);
        for (int c = 0; c < 30; c++) {
            due("may " + c, x.may(0, c), c == 29 ? 1 : 0);
        }
        due("nor one that is none", x.may(0, 30), 0);
        x.stay(0, 0);
        due("now 0", x.may(0, 0), 1);
        due("no more 29", x.may(0, 29), 0);
        x.list(0, ALL - 1);
        due("it isn't of the list", x.may(0, 0), 0);
        due("nor is another one free", x.may(0, 1), 0);
    }

    private static void noneAtFirst() {
        WavePlan x = line(1);
        due("none", x.channel(0), -2);
        x.plan(1);
        x.mast(0, 0, 0, 2);
        dueChannels("later ones have none", x, 0, -2, -2);
        due("one has any", x.count(6), 1);
    }

    private static void channelsOf() {
        WavePlan x = heap(PAIR, PLAIN);
        x.row(0, 0, 1);
        x.gap(0, 10);
        setAll(x, 3, 3);
        due("c", x.harm(), 1);
        x.set(1, 13);
        due("c + D", x.harm(), 1);
        x.set(1, 12);
        due("not one between them", x.harm(), 0);
        x.set(1, 8);
        due("nor another one", x.harm(), 0);
        x.gap(0, 5);
        due("D as it is now", x.harm(), 1);
        x.set(1, -1);
        due("both in the span", x.span(), 5);
        narrowest(heap(PAIR, PLAIN), 0);
        narrowest(heap(PLAIN, PAIR), 1);
    }

    /** D is 1: c + D is the very next one. */
    private static void narrowest(WavePlan x, int pair) {
        x.row(0, 0, 1);
        x.gap(pair, 1);
        x.set(pair, 3);
        int[] harm = {0, 1, 1, 0};
        for (int c = 2; c <= 5; c++) {
            x.set(1 - pair, c);
            due("D 1, pair " + pair + ", the other on " + c, x.harm(), harm[c - 2]);
        }
        x.list(pair, only(0, 1));
        x.list(1 - pair, only(0, 1, 2));
        due("both planned", x.plan(30), 1);
        due("the pair on 0 1", x.channel(pair), 0);
        due("the other on 2", x.channel(1 - pair), 2);
    }

    private static void sayBroken(Sentences terms) {
        terms.says("(1) two WANTS of one MAST, or of two", TermsTest::lacksOfOneOrTwo)
                .says("one of each, differ by less than the BAR", TermsTest::lessThanTheBar)
                .says("by so much less as the greatest such lack.", TermsTest::greatestLack)
                .says("(2) three WANTS, one of each of three MASTS that ARE IN", TermsTest::sumsOfThreeMasts)
                .says("q + r = 2 p: each such p, q, r counts (each of the three may be p).", TermsTest::eachMayBeP)
                .says("(3) a WANT with a channel that it MAY not have.", TermsTest::strays)
                .says("HARM is the sum of all lacks of (1), 5 for each p, q, r of (2), 10 for each of (3).", TermsTest::harm)
                .says("WANTS without a channel break nothing.", TermsTest::withoutChannel)
                .says("It is KEPT, if each WANT has a channel and HARM is 0.", TermsTest::kept);
    }

    private static void lacksOfOneOrTwo() {
        WavePlan x = new WavePlan();
        x.mast(0, 0, 0, 3);
        x.mast(0, 0, 0, 1);
        setAll(x, 4, 9, 20, 4);
        due("two masts without a bar", x.broken(0), 0);
        x.row(0, 0, 1);
        due("two masts", x.broken(0), 1);
        setAll(x, 4, 9, 9, 29);
        due("the second and third of one", x.broken(0), 1);
        setAll(x, 4, 9, 4, 29);
        due("the first and third of one", x.broken(0), 1);
        setAll(x, 4, 4, 4, 4);
        due("all", x.broken(0), 6);
    }

    private static void lessThanTheBar() {
        for (int bar = 0; bar <= 4; bar++) {
            WavePlan x = heap(PLAIN, PLAIN);
            x.row(0, 0, bar);
            for (int apart = 0; apart <= 5; apart++) {
                setAll(x, 10, 10 + apart);
                due("bar " + bar + ", above by " + apart, x.harm(), Math.max(0, bar - apart));
                setAll(x, 10, 10 - apart);
                due("bar " + bar + ", below by " + apart, x.harm(), Math.max(0, bar - apart));
            }
        }
        for (int own = 0; own <= 6; own++) {
            WavePlan x = new WavePlan();
            x.mast(0, 0, 0, 2);
            x.own(own, -1);
            for (int apart = 0; apart <= 7; apart++) {
                setAll(x, 10, 10 + apart);
                due("own " + own + ", above by " + apart, x.harm(), Math.max(0, own - apart));
                setAll(x, 10, 10 - apart);
                due("own " + own + ", below by " + apart, x.harm(), Math.max(0, own - apart));
            }
        }
    }

    private static void greatestLack() {
        WavePlan x = heap(PAIR, PAIR);
        x.row(0, 0, 4);
        setAll(x, 0, 0);
        // 0 5 and 0 5: 0 with 0 and 5 with 5 lack 4 each
        due("two lacks that are the same", x.harm(), 4);
        setAll(x, 0, 2);
        // 0 5 and 2 7: 0 with 2 lacks 2, 5 with 7 lacks 2, 5 with 2 lacks 1
        due("a lesser lack beside", x.harm(), 2);
        setAll(x, 0, 7);
        // 0 5 and 7 12: 5 with 7
        due("the second of the first", x.harm(), 2);
        setAll(x, 7, 0);
        due("the second of the second", x.harm(), 2);
        x.gap(1, 3);
        setAll(x, 0, 2);
        // 0 5 and 2 5
        due("both seconds", x.harm(), 4);
        due("one two", x.broken(0), 1);
        WavePlan one = new WavePlan();
        one.mast(PAIR, 0, 0, 1);
        one.own(6, -1);
        one.gap(0, 1);
        one.set(0, 3);
        due("c and c + D of one want are no two", one.harm(), 0);
    }

    private static void sumsOfThreeMasts() {
        WavePlan x = new WavePlan();
        x.mast(0, 0, 0, 2);
        x.mast(0, 0, 0, 2);
        x.mast(0, 0, 0, 2);
        x.own(0, 0);
        setAll(x, 1, 1, 2, 2, 3, 3);
        due("each of the eight threes", x.broken(2), 8);
        setAll(x, 1, 2, 3, 4, 9, 29);
        // of the four twos of the first two masts and 9 or 29: 1 3 5, 1 4 7, 2 3 4, 2 4 6 and the like: none with 9 or 29
        due("threes that have two of one mast don't count", x.broken(2), 0);
        WavePlan four = heap(PLAIN, PLAIN, PLAIN, PLAIN);
        four.own(0, 0);
        setAll(four, 0, 2, 4, 6);
        // 0 2 4 and 2 4 6
        due("of four masts", four.broken(2), 2);
        four.move(0, at(0, 1));
        due("one isn't in", four.broken(2), 1);
    }

    private static void eachMayBeP() {
        int[][] orders = {{3, 5, 7}, {3, 7, 5}, {5, 3, 7}, {5, 7, 3}, {7, 3, 5}, {7, 5, 3}};
        for (int[] channels : orders) {
            WavePlan x = heap(PLAIN, PLAIN, PLAIN);
            x.own(0, 0);
            setAll(x, channels);
            due("p in the midst", x.broken(2), 1);
        }
        WavePlan x = heap(PLAIN, PLAIN, PLAIN);
        x.own(0, 0);
        setAll(x, 3, 5, 6);
        due("an odd sum", x.broken(2), 0);
        setAll(x, 3, 5, 8);
        due("an odd sum, p would be between", x.broken(2), 0);
        setAll(x, 3, 3, 5);
        due("two the same", x.broken(2), 0);
        setAll(x, 0, 0, 0);
        due("all the same: each is p", x.broken(2), 3);
        setAll(x, 1, 15, 29);
        due("as far as can be", x.broken(2), 1);
        WavePlan pairs = heap(PAIR, PAIR, PAIR);
        pairs.own(0, 0);
        setAll(pairs, 0, 0, 0);
        // each has 0 and 5: 0 0 0 and 5 5 5, in which each is p; 0 0 5 and the like are none
        due("pairs: c and c + D", pairs.broken(2), 6);
        setAll(pairs, 0, 5, 10);
        // 0 5, 5 10, 10 15: 0 5 10; 5 5 with 10 or 15 no; 0 10 with 10 or 15 no; 5 10 15: two
        due("pairs side by side", pairs.broken(2), 2);
    }

    private static void strays() {
        WavePlan x = heap(PLAIN, PAIR, OLD, BORDER);
        x.gap(1, 1);
        setAll(x, 3, 28, 5, 5);
        due("none", x.broken(3), 0);
        x.list(0, only(4));
        due("not of its list", x.broken(3), 1);
        x.set(1, 29);
        due("c + D is beyond", x.broken(3), 2);
        x.stay(2, 6);
        due("told to stay on another", x.broken(3), 3);
        x.border(0, 0, ALL, only(4));
        due("not allowed at the border", x.broken(3), 4);
        setAll(x, 4, 28, 6, 4);
        due("none again", x.broken(3), 0);
        x.list(2, 0);
        due("told to stay on one that isn't of its list", x.broken(3), 1);
    }

    private static void harm() {
        WavePlan x = heap(PLAIN, PLAIN, PLAIN);
        due("none has any", x.harm(), 0);
        x.row(0, 0, 3);
        x.own(0, 0);
        setAll(x, 1, 2, 3);
        due("lacks 2, 2, 1 and a sum", x.harm(), 2 + 2 + 1 + 5);
        x.list(0, 0);
        x.list(2, 0);
        due("and two that may not", x.harm(), 2 + 2 + 1 + 5 + 20);
        setAll(x, 7, 7, 7);
        due("three lacks of 3, three sums, two that may not", x.harm(), 9 + 15 + 20);
    }

    private static void withoutChannel() {
        WavePlan x = heap(PLAIN, PLAIN, PLAIN);
        x.row(0, 0, 4);
        x.own(0, 0);
        for (int m = 0; m < 3; m++) {
            x.list(m, 0);
        }
        due("none has any", x.harm(), 0);
        for (int w = 0; w < 3; w++) {
            setAll(x, 1, 1, 1);
            x.set(w, -1);
            due("two lack, no sum, two may not, without " + w, x.harm(), 4 + 20);
            due("one two", x.broken(0), 1);
            due("no sum", x.broken(2), 0);
            due("two", x.broken(3), 2);
        }
    }

    private static void kept() {
        due("without wants", new WavePlan().kept(), 1);
        WavePlan x = heap(PLAIN, PLAIN);
        x.row(0, 0, 2);
        due("none has any", x.kept(), 0);
        setAll(x, 0, -1);
        due("the last has none", x.kept(), 0);
        setAll(x, -1, 0);
        due("the first has none", x.kept(), 0);
        setAll(x, 0, 1);
        due("harm 1", x.kept(), 0);
        setAll(x, 0, 2);
        due("harm 0", x.kept(), 1);
        x.list(0, 0);
        due("one may not", x.kept(), 0);
    }

    private static void sayTries(Sentences terms) {
        terms.says("channel by channel, from 0 to n - 1: a TRY", TermsTest::channelByChannel)
                .says("it is taken, if it MAY be", TermsTest::takenIfItMayBe)
                .says("of a PAIR c + D is below n, too", TermsTest::pairBelowN)
                .says("HARM of the WANTS so far (others have none) is 0", TermsTest::wantsSoFar)
                .says("HARM of the WANTS so far (others have none) is 0", TermsTest::pairsInSums)
                .says("of a MAST's second and third WANT, it is above the one before", TermsTest::aboveTheOneBefore)
                .says("if there is no channel (more) back to the WANT before, its next channel.", TermsTest::back)
                .says("4000 TRIES at most: where one more would be made it is SPENT.", TermsTest::spent);
    }

    private static void channelByChannel() {
        WavePlan x = heap(PLAIN);
        due("n 1", x.plan(1), 1);
        due("one try", x.tries(), 1);
        x.list(0, only(7));
        due("n - 1 is 6", x.plan(7), 0);
        due("0 .. 6", x.tries(), 7);
        due("n - 1 is 7", x.plan(8), 1);
        due("0 .. 7", x.tries(), 8);
        due("n - 1 is 29", x.plan(30), 1);
        due("still 0 .. 7", x.tries(), 8);
        x.list(0, 0);
        due("none", x.plan(30), 0);
        due("0 .. 29", x.tries(), 30);
    }

    private static void takenIfItMayBe() {
        WavePlan x = heap(PAIR, OLD, BORDER);
        x.list(0, only(1, 6, 11));
        x.stay(1, 3);
        x.border(0, 0, ALL, only(2));
        due("planned", x.plan(30), 1);
        dueChannels("each what it may", x, 1, 3, 2);
        due("2 and 4 and 3 tries", x.tries(), 9);
    }

    private static void pairBelowN() {
        WavePlan x = heap(PAIR);
        due("c + D is n", x.plan(5), 0);
        due("all are tried", x.tries(), 5);
        due("c + D is n - 1", x.plan(6), 1);
        due("on 0", x.channel(0), 0);
        x.gap(0, 10);
        due("n 10", x.plan(10), 0);
        due("n 11", x.plan(11), 1);
        x.gap(0, 1);
        due("n 1", x.plan(1), 0);
        due("n 2", x.plan(2), 1);
        x.list(0, only(3, 4, 28, 29));
        due("n 4", x.plan(4), 0);
        due("n 5", x.plan(5), 1);
        x.list(0, only(28, 29));
        due("n 29", x.plan(29), 0);
        due("n 30", x.plan(30), 1);
        due("on 28", x.channel(0), 28);
    }

    private static void wantsSoFar() {
        WavePlan x = heap(PLAIN, PLAIN, PLAIN);
        x.row(0, 0, 1);
        setAll(x, 2, 0, 0);
        due("what later ones had is nothing", x.plan(3), 1);
        dueChannels("from 0 on", x, 0, 1, 2);
        due("1 and 2 and 3 tries", x.tries(), 6);
        WavePlan sums = heap(PLAIN, PLAIN, PLAIN);
        sums.own(0, 0);
        due("a sum is harm only with the third", sums.plan(3), 1);
        dueChannels("so the third goes on", sums, 0, 0, 1);
        due("1 and 1 and 2 tries", sums.tries(), 4);
        sums.list(0, only(2));
        sums.list(1, only(1));
        due("0 would be a sum: 0 + 2 = 2 * 1", sums.plan(3), 1);
        dueChannels("not 0", sums, 2, 1, 1);
        sums.list(0, only(1));
        sums.list(1, only(4));
        due("0 is none", sums.plan(30), 1);
        dueChannels("0", sums, 1, 4, 0);
        sums.list(0, only(27));
        sums.list(1, only(28));
        sums.list(2, only(26, 29));
        due("26 27 28 and 27 28 29 are sums", sums.plan(30), 0);
        WavePlan pair = heap(PLAIN, PAIR, PLAIN);
        pair.row(0, 0, 1);
        pair.list(0, only(5));
        pair.list(2, only(1, 6, 7));
        due("a pair's c + D, before and behind others", pair.plan(30), 1);
        dueChannels("not 0 5; not 1, not 6", pair, 5, 1, 7);
        due("6 and 2 and 8 tries", pair.tries(), 16);
    }

    private static void pairsInSums() {
        WavePlan last = heap(PLAIN, PLAIN, PAIR);
        last.own(0, 0);
        last.list(0, only(0));
        last.list(1, only(10));
        due("0 + 10 = 2 * 5", last.plan(30), 1);
        dueChannels("not 0 5", last, 0, 10, 1);
        for (int p = 0; p < 2; p++) {
            WavePlan x = heap(p == 0 ? PAIR : PLAIN, p == 0 ? PLAIN : PAIR, PLAIN);
            x.own(0, 0);
            x.list(p, only(0, 5));
            x.list(1 - p, only(10));
            due("10 + 0 = 2 * 5", x.plan(30), 1);
            due("not 0", x.channel(2), 1);
            x.list(2, only(20, 15, 29));
            due("0 + 20 = 2 * 10, 5 + 15 = 2 * 10", x.plan(30), 1);
            due("neither", x.channel(2), 29);
        }
    }

    private static void aboveTheOneBefore() {
        WavePlan x = new WavePlan();
        x.mast(OLD, 0, 0, 3);
        x.mast(OLD, at(60, 60), 0, 1);
        x.own(0, -1);
        due("0 1 are not enough", x.plan(2), 0);
        due("0 1 2", x.plan(3), 1);
        dueChannels("another mast's goes from 0 on", x, 0, 1, 2, 0);
        x.stay(0, 4);
        x.stay(1, 4);
        due("the second the same", x.plan(30), 0);
        x.stay(1, 3);
        due("the second below", x.plan(30), 0);
        x.stay(1, 6);
        x.stay(2, 5);
        due("the third below the second, above the first", x.plan(30), 0);
        x.stay(2, 6);
        due("the third the same as the second", x.plan(30), 0);
        x.stay(2, 7);
        due("all above", x.plan(30), 1);
        dueChannels("told", x, 4, 6, 7, 0);
    }

    private static void back() {
        WavePlan x = heap(PLAIN, PLAIN);
        x.row(0, 0, 1);
        x.list(1, only(0));
        due("back once", x.plan(2), 1);
        dueChannels("the next one of the first", x, 1, 0);
        // 0: 0 1 fail; 1: 0
        due("its tries", x.tries(), 5);
        due("back beyond the first", x.plan(1), 0);
        due("0: 0 fails", x.tries(), 2);
        WavePlan far = new WavePlan();
        far.mast(0, 0, 0, 1);
        far.mast(0, at(60, 0), 0, 1);
        far.mast(0, 0, 0, 1);
        far.row(0, 0, 1);
        far.list(2, only(0));
        due("back over one that is free", far.plan(2), 1);
        dueChannels("it begins again", far, 1, 0, 0);
        // 0: (0: 0 1 fail; 1: 0 1 fail); 1: 0: 0
        due("its tries, too", far.tries(), 1 + 1 + 2 + 1 + 2 + 1 + 1 + 1);
    }

    /** Far apart, so that nothing breaks; want i may have the channels 0 .. sizes[i] - 1. */
    private static WavePlan apart(int... sizes) {
        WavePlan x = line(sizes.length);
        for (int m = 0; m < sizes.length; m++) {
            x.list(m, first(sizes[m]));
        }
        return x;
    }

    /**
     * Under channel 0 of want 0 all fail, as want 4 can't have 0 beside it: 1 + 30 (1 + 2 + 10 + 120) tries;
     * under channel 1 each of wants 1 .. 4 takes 0 at once: 1 + 4 tries. So the last want's first is try 3997.
     */
    private static WavePlan lastOn(int channel) {
        WavePlan x = apart(2, 2, 5, 12, 1, 0);
        x.move(4, 0);
        x.row(0, 0, 1);
        x.list(5, only(channel));
        return x;
    }

    private static void spent() {
        WavePlan just = lastOn(3);
        due("the 4000th is taken", just.plan(30), 1);
        due("4000", just.tries(), 4000);
        dueChannels("planned", just, 1, 0, 0, 0, 0, 3);
        WavePlan more = lastOn(4);
        due("the 4001st would be taken", more.plan(30), -2);
        due("no more than 4000", more.tries(), 4000);
        dueChannels("stays", more, -2, -2, -2, -2, -2, -2);
        // 10 (1 + 3 + 6 + 30 + 180 + 180)
        WavePlan none = apart(3, 2, 5, 6, 1, 0);
        due("the 4000th is the last of all", none.plan(10), 0);
        due("so there is none", none.tries(), 4000);
        // 10 (1 + 4 + 36 + 360)
        WavePlan tenMore = apart(4, 9, 10, 0);
        due("4010 would be made", tenMore.plan(10), -2);
        due("4000 are", tenMore.tries(), 4000);
    }

    private static void sayBetter(Sentences terms) {
        terms.says("of all ways to give one WANT that has a channel (and isn't told to stay) another one that it MAY have",
                        TermsTest::waysToBetter)
                .says("that by which HARM becomes least; of these the least WANT, of these the least channel",
                        TermsTest::leastHarm)
                .says("that by which HARM becomes least", TermsTest::harmOfSums)
                .says("that by which HARM becomes least", TermsTest::sumAgainstLack)
                .says("that by which HARM becomes least", TermsTest::harmAtTheEnds)
                .says("that by which HARM becomes least", TermsTest::harmOfPairs)
                .says("of these the least WANT", TermsTest::harmOfOtherKinds)
                .says("if it is less than HARM it is done.", TermsTest::lessThanHarm);
    }

    private static void waysToBetter() {
        WavePlan x = heap(PLAIN, OLD, OLD, PLAIN);
        x.row(0, 0, 1);
        x.stay(1, 0);
        setAll(x, -1, 0, 0, 0);
        due("one that is free", x.better(1), 1);
        dueChannels("neither one without nor one that is told", x, -2, 0, 1, 0);
        due("the next", x.better(1), 1);
        dueChannels("the last", x, -2, 0, 1, 2);
        setAll(x, -1, 5, -1, -1);
        due("harm 10 of one that is told", x.harm(), 10);
        due("it isn't changed, even to what it is told", x.better(1), 0);
        x.stay(1, -1);
        x.list(1, only(9, 29));
        due("told no more", x.better(1), 1);
        due("to one that it may have", x.channel(1), 9);
        x.list(1, 0);
        due("there is none that it may have", x.better(1), 0);
        WavePlan none = heap(PLAIN, PLAIN);
        none.row(0, 0, 4);
        none.list(0, 0);
        none.list(1, 0);
        setAll(none, 3, 3);
        due("two on channels that they may not have, with a lack", none.harm(), 24);
        due("another one that it may not have would have no lack", none.better(1), 0);
        dueChannels("stays", none, 3, 3);
    }

    private static void leastHarm() {
        WavePlan x = line(3);
        x.row(1, 0, 1);
        setAll(x, 0, 0, 0);
        due("the one in the midst", x.better(5), 1);
        dueChannels("leaves no harm", x, 0, 1, 0);
        WavePlan two = heap(PLAIN, PLAIN);
        two.row(0, 0, 4);
        two.list(0, only(6, 9));
        two.list(1, only(5, 8, 9));
        setAll(two, 6, 5);
        // 3 now; want 0 on 9: 0; want 1 on 8: 2, on 9: 1
        due("the least harm", two.better(1), 1);
        dueChannels("not the first that is less", two, 9, 5);
        WavePlan same = heap(PLAIN, PLAIN);
        same.row(0, 0, 2);
        setAll(same, 3, 3);
        due("many that are the same", same.better(1), 1);
        dueChannels("the least want, the least channel", same, 0, 3);
        setAll(same, 0, 0);
        due("at the lower end", same.better(1), 1);
        dueChannels("the least channel is 2", same, 2, 0);
    }

    /** One of three masts, which are all in, may have some channels, the others have 4 and 8 alone. */
    private static void harmOfSums() {
        for (int w = 0; w < 3; w++) {
            for (int from : new int[] {0, 6, 12}) {
                WavePlan x = heap(PLAIN, PLAIN, PLAIN);
                x.own(0, 0);
                x.list((w + 1) % 3, only(4));
                x.list((w + 2) % 3, only(8));
                x.list(w, only(0, 6, 7, 12));
                x.set((w + 1) % 3, 4);
                x.set((w + 2) % 3, 8);
                x.set(w, from);
                due("0 4 8, 4 6 8 and 4 8 12 are sums: want " + w + " on " + from, x.better(9), 1);
                due("4 7 8 is none", x.channel(w), 7);
            }
        }
        WavePlan far = heap(PLAIN, PLAIN, PLAIN);
        far.own(0, 0);
        far.list(0, only(27));
        far.list(1, only(28));
        far.list(2, only(26, 29, 0));
        setAll(far, 27, 28, 29);
        due("27 28 29 is a sum, 26 27 28 is, too", far.better(9), 1);
        dueChannels("not 26", far, 27, 28, 0);
        WavePlan odd = heap(PLAIN, PLAIN, PLAIN);
        odd.own(0, 0);
        odd.list(0, only(4));
        odd.list(1, only(9));
        odd.list(2, only(3, 6, 8));
        setAll(odd, 4, 9, 6);
        due("4 + 9 is no 2 p", odd.better(9), 0);
        odd.list(1, only(10));
        odd.list(2, only(3, 7, 8));
        setAll(odd, 4, 10, 7);
        due("4 + 10 is 2 * 7", odd.better(9), 1);
        dueChannels("3 isn't one", odd, 4, 10, 3);
    }

    /** A lack of 6 is more than a sum, and less than two. */
    private static void sumAgainstLack() {
        WavePlan x = new WavePlan();
        for (int i = 0; i < 3; i++) {
            x.mast(PLAIN, 0, 0, 1);
        }
        x.mast(PLAIN, at(60, 60), 0, 2);
        x.own(6, 0);
        setAll(x, 4, 5, 6, 9, 9);
        due("harm", x.harm(), 5 + 6);
        due("the lack first", x.better(1), 1);
        dueChannels("so the want of the lack", x, 4, 5, 6, 0, 9);
        due("then the sum", x.better(1), 1);
        dueChannels("the least want", x, 0, 5, 6, 0, 9);
        WavePlan all = new WavePlan();
        all.mast(PLAIN, at(60, 60), 0, 2);
        for (int i = 0; i < 3; i++) {
            all.mast(PLAIN, 0, 0, 1);
        }
        all.own(6, 0);
        setAll(all, 9, 9, 4, 4, 4);
        due("three sums before the lack", all.better(1), 1);
        dueChannels("all three of one want", all, 9, 9, 0, 4, 4);
    }

    private static void harmAtTheEnds() {
        WavePlan high = heap(PLAIN, PLAIN);
        high.row(0, 0, 2);
        high.list(0, only(28));
        high.list(1, only(29, 5));
        setAll(high, 28, 29);
        due("a lack at 29", high.better(9), 1);
        dueChannels("away from it", high, 28, 5);
        WavePlan low = heap(PLAIN, PLAIN);
        low.row(0, 0, 2);
        low.list(0, only(1));
        low.list(1, only(0, 5));
        setAll(low, 1, 0);
        due("a lack at 0", low.better(9), 1);
        dueChannels("away from it, too", low, 1, 5);
        WavePlan narrow = heap(PAIR, PLAIN, PLAIN);
        narrow.own(0, 0);
        narrow.gap(0, 1);
        narrow.list(0, only(0, 1, 4, 5));
        narrow.list(1, only(2));
        narrow.list(2, only(3));
        setAll(narrow, 0, 2, 3);
        // 1 2 3; 2 3 4
        due("a sum of 0 + 1", narrow.better(9), 0);
        narrow.list(0, only(0, 1, 5, 6));
        due("a sum of 0 + 1 that can be left", narrow.better(9), 1);
        dueChannels("5 6 has none", narrow, 5, 2, 3);
        // 31 would be in a sum with 20 and 9, -2 with 4 and 10, and 0 with 4 and 8
        for (int[] others : new int[][] {{20, 9}, {4, 10}, {4, 8}, {0, 29}, {29, 0}}) {
            WavePlan x = heap(PAIR, PLAIN, PLAIN);
            x.own(0, 0);
            x.gap(0, 1);
            setAll(x, 24, others[0], others[1]);
            due("sums beyond the channels are none", x.better(9), 0);
        }
    }

    private static void harmOfPairs() {
        int[][] lacking = {{2, 1}, {8, 9}, {12, 11}, {18, 19}};
        for (int[] steps : lacking) {
            // a pair of D 10, one on 15: those lack whose c or c + D is 12 .. 18
            WavePlan x = heap(PAIR, PLAIN);
            x.row(0, 0, 4);
            x.gap(0, 10);
            x.list(0, only(steps[0], steps[1], steps[0] + 10, steps[1] + 10));
            x.list(1, only(15));
            setAll(x, steps[0], 15);
            due("a pair goes from " + steps[0], x.better(9), 1);
            due("a pair went", x.channel(0), steps[1]);
            // one beside a pair on 5 and 15: 2 .. 8 and 12 .. 18 lack
            WavePlan y = heap(PAIR, PLAIN);
            y.row(0, 0, 4);
            y.gap(0, 10);
            y.list(0, only(5, 15));
            y.list(1, only(steps[0], steps[1]));
            setAll(y, 5, steps[0]);
            due("one beside a pair goes from " + steps[0], y.better(9), 1);
            due("one beside a pair went", y.channel(1), steps[1]);
        }
        for (int from : new int[] {1, 7}) {
            WavePlan x = heap(PLAIN, PAIR, PLAIN);
            x.own(0, 0);
            x.list(0, only(4));
            x.list(2, only(8));
            x.list(1, only(1, 2, 6, 7, 12));
            setAll(x, 4, from, 8);
            due("6 or 12 as c + D is a sum, from " + from, x.better(9), 1);
            dueChannels("2 7 is none", x, 4, 2, 8);
        }
        for (int from : new int[] {0, 2, 5, 6, 12}) {
            WavePlan x = heap(PLAIN, PAIR, PLAIN);
            x.own(0, 0);
            x.list(0, only(0, 2, 5, 6, 7, 12));
            x.list(1, only(3, 8));
            x.list(2, only(4));
            setAll(x, from, 3, 4);
            // with 3 and 4: 2, 5; with 8 and 4: 0, 6, 12
            due("beside a pair, from " + from, x.better(9), 1);
            dueChannels("7 is none", x, 7, 3, 4);
            WavePlan y = heap(PLAIN, PLAIN, PAIR);
            y.own(0, 0);
            y.list(0, only(0, 2, 5, 6, 7, 12));
            y.list(1, only(4));
            y.list(2, only(3, 8));
            setAll(y, from, 4, 3);
            due("before a pair, from " + from, y.better(9), 1);
            dueChannels("7 is none, too", y, 7, 4, 3);
        }
    }

    /** A channel that may not be against two lacks of 5: 10 each. */
    private static void harmOfOtherKinds() {
        WavePlan x = new WavePlan();
        x.mast(PLAIN, 0, 0, 1);
        x.mast(PLAIN, 0, 0, 3);
        x.own(6, -1);
        x.list(0, only(1));
        setAll(x, 2, 6, 5, 7);
        due("the first is one that may not", x.better(1), 1);
        dueChannels("it goes", x, 1, 6, 5, 7);
        WavePlan y = new WavePlan();
        y.mast(PLAIN, 0, 0, 3);
        y.mast(PLAIN, 0, 0, 1);
        y.own(6, -1);
        y.list(1, only(1));
        setAll(y, 6, 5, 7, 2);
        due("the first has the lacks", y.better(1), 1);
        dueChannels("it goes to where no lack is", y, 13, 5, 7, 2);
    }

    private static void lessThanHarm() {
        WavePlan x = heap(PLAIN, PLAIN, PLAIN);
        x.row(0, 0, 1);
        for (int m = 0; m < 3; m++) {
            x.list(m, first(2));
        }
        setAll(x, 0, 0, 1);
        due("harm", x.harm(), 1);
        due("others have harm 1, too", x.better(1), 0);
        dueChannels("stays", x, 0, 0, 1);
        setAll(x, 0, 0, 0);
        due("less by one", x.better(9), 1);
        dueChannels("once", x, 1, 0, 0);
        WavePlan none = heap(PLAIN);
        none.set(0, 9);
        due("no harm", none.better(1), 0);
        due("so not even a lesser channel", none.channel(0), 9);
    }

    private static void sayCrowds(Sentences terms) {
        terms.says("A CROWD is a set of MASTS of which each two have a BAR above 0.", TermsTest::crowd)
                .says("of all orders of all its WANTS (6 at most) the least sum of the BARS of each two that stand side by side.",
                        TermsTest::bound)
                .says("(Each plan that is KEPT has a span of at least that, where none is a PAIR.)", TermsTest::spanOfKept)
                .says("MASTS are in one PART if they have a BAR above 0", TermsTest::partByBar)
                .says("or ARE IN a SUM together, or over others.", TermsTest::partBySum)
                .says("PARTS are numbered by their least MASTS.", TermsTest::partNumbers);
    }

    private static void crowd() {
        WavePlan x = line(3);
        x.own(0, -1);
        due("one alone, without an own", x.bound(0b001), 0);
        due("two without a bar", x.bound(0b011), -2);
        x.row(1, 0, 1);
        due("a bar of 1", x.bound(0b011), 1);
        due("the last two", x.bound(0b110), 1);
        due("the first and the last", x.bound(0b101), -2);
        due("all three, of whom two have none", x.bound(0b111), -2);
        x.row(4, 0, 1);
        due("each two", x.bound(0b111), 2);
    }

    private static void bound() {
        WavePlan x = line(3);
        x.row(4, 0, 4);
        x.own(0, -1);
        due("bars of 4", x.bound(0b111), 8);
        WavePlan way = new WavePlan();
        way.mast(0, 0, 2, 1);
        way.mast(0, 0, 2, 1);
        way.mast(0, 0, 0, 1);
        way.row(0, 4, 4);
        way.row(0, 0, 1);
        // 0 and 1 have 4, each of them and 2 has 1
        due("2 stands between", way.bound(0b111), 2);
        WavePlan six = heap(PLAIN, PLAIN, PLAIN, PLAIN, PLAIN, PLAIN, PLAIN);
        six.row(0, 0, 1);
        due("six of seven", six.bound(0b1111110), 5);
        due("seven", six.bound(0b1111111), -3);
        WavePlan own = new WavePlan();
        own.mast(0, 0, 0, 3);
        own.mast(0, 0, 0, 3);
        own.row(0, 0, 1);
        own.own(6, -1);
        due("by turns", own.bound(0b11), 5);
        own.own(0, -1);
        due("side by side", own.bound(0b11), 1);
        due("one's three", own.bound(0b10), 0);
        own.own(6, -1);
        due("one's three, own 6", own.bound(0b10), 12);
        WavePlan pair = heap(PAIR, PAIR);
        pair.row(0, 0, 2);
        due("D is nothing to it", pair.bound(0b11), 2);
    }

    private static void spanOfKept() {
        for (int own = 0; own <= 6; own++) {
            for (int bar = 0; bar <= 4; bar++) {
                WavePlan x = new WavePlan();
                x.mast(PLAIN, at(0, 0), 1, 2);
                x.mast(OLD, at(1, 0), 2, 2);
                x.mast(BORDER, at(2, 0), 0, 1);
                x.row(4, 0, bar);
                x.row(1, 2, 3);
                x.own(own, 4);
                if (x.least() > 0) {
                    due("it is kept", x.kept(), 1);
                    CHECK.isTrue("own " + own + ", bar " + bar, x.span() >= x.bound(x.crowd()));
                }
            }
        }
    }

    private static void partByBar() {
        WavePlan x = line(2);
        due("no bar", x.part(1), 1);
        x.row(1, 0, 0);
        due("a bar of 0", x.part(1), 1);
        due("two parts", x.count(5), 2);
        x.row(1, 0, 1);
        due("a bar of 1", x.part(1), 0);
        due("one part", x.count(5), 1);
    }

    private static void partBySum() {
        WavePlan x = line(5);
        x.move(3, at(40, 0));
        x.move(4, at(41, 0));
        x.own(2, 4);
        due("0, 1, 2 are in a sum", x.part(2), 0);
        due("3 and 4 are near, but two alone", x.part(4), 2);
        due("3, too", x.part(3), 1);
        x.row(1, 1, 4);
        due("no bar by that", x.count(5), 3);
        x.row(1, 0, 1);
        due("3 and 4 have a bar now", x.part(4), 1);
        x.move(3, at(3, 0));
        x.move(4, at(4, 0));
        x.own(2, 1);
        due("no sums, over bars", x.part(4), 0);
        x.move(4, at(8, 0));
        due("out of reach", x.part(4), 1);
        WavePlan mixed = new WavePlan();
        mixed.mast(0, at(0, 0), 0, 1);
        mixed.mast(0, at(15, 0), 0, 1);
        mixed.mast(0, at(10, 0), 0, 1);
        mixed.mast(0, at(0, 10), 0, 1);
        mixed.own(2, 200);
        due("1 isn't in", mixed.part(1), 1);
        mixed.row(25, 0, 1);
        due("over a bar and a sum", mixed.part(1), 0);
        due("all in one", mixed.count(5), 1);
    }

    private static void partNumbers() {
        WavePlan x = new WavePlan();
        int[] places = {0, 30, 31, 1, 60, 32};
        for (int p : places) {
            x.mast(0, at(p, 0), 0, 1);
        }
        x.row(1, 0, 1);
        int[] parts = {0, 1, 1, 0, 2, 1};
        for (int m = 0; m < parts.length; m++) {
            due("part(" + m + ")", x.part(m), parts[m]);
        }
        due("parts", x.count(5), 3);
        WavePlan all = line(12);
        for (int m = 0; m < 12; m++) {
            due("each for itself", all.part(m), m);
        }
        due("twelve", all.count(5), 12);
    }

    private static void sayShelves(Sentences terms) {
        terms.says("SHELVES 0 .. 7 each hold nothing (at first)", TermsTest::shelves)
                .says("a MAST (as it is then)", TermsTest::mastAsItIsThen)
                .says("-11 nothing is held where something is wanted", TermsTest::nothingHeld)
                .says("-12 it is of another kind", TermsTest::otherKind)
                .says("-13 a place that it doesn't have", TermsTest::noPlace)
                .says("-14 a size below 0", TermsTest::sizeBelow)
                .says("-15 a FAILURE that is none", TermsTest::noFailure);
    }

    private static void shelves() {
        WavePlan x = line(8);
        for (int d = 0; d < 8; d++) {
            due("nothing on " + d, x.weight(d), -11);
        }
        for (int d = 0; d < 8; d++) {
            due("keep " + d, x.keep(d, 1, d), 0);
        }
        for (int d = 0; d < 8; d++) {
            due("each its own", x.weight(d), d + 5);
        }
        for (int d : new int[] {-1, 8, MIN, MAX}) {
            due("keep " + d, x.keep(d, 1, 0), -1);
            due("make " + d, x.make(d, 3, 1), -1);
            due("weight " + d, x.weight(d), -1);
            due("toss " + d, x.toss(d), -1);
            due("element " + d, thrown(x, d, 0), 1);
            due("copy from " + d, x.copy(d, 0, 0, 0, 0), -1);
            due("copy to " + d, x.copy(0, 0, d, 0, 0), -1);
        }
    }

    private static void mastAsItIsThen() {
        WavePlan x = heap(PAIR, PLAIN);
        x.keep(0, 1, 0);
        x.gap(0, 9);
        x.keep(1, 1, 0);
        due("D was 5", x.weight(0), 10);
        due("D is 9", x.weight(1), 14);
        x.keep(1, 1, 1);
        due("another one now", x.weight(1), 6);
        due("the office's is as it was", x.look(0, 7), 9);
    }

    private static void nothingHeld() {
        WavePlan x = heap(PAIR);
        x.make(1, 3, 2);
        due("weight", x.weight(0), -11);
        due("toss", x.toss(0), -11);
        due("copy from", x.copy(0, 0, 1, 0, 1), -11);
        due("copy to", x.copy(1, 0, 0, 0, 1), -11);
        due("copy of both", x.copy(0, 0, 2, 0, 0), -11);
        x.keep(0, 1, 0);
        due("held", x.weight(0), 10);
        x.keep(0, 0, 0);
        due("no more", x.weight(0), -11);
        due("no more to toss", x.toss(0), -11);
        x.keep(1, 0, 0);
        due("no row any more", x.copy(1, 0, 1, 0, 0), -11);
    }

    private static void otherKind() {
        WavePlan x = heap(PAIR);
        x.make(0, 3, 2);
        x.make(1, 4, 2);
        x.keep(2, 1, 0);
        for (int d = 0; d < 2; d++) {
            due("weight of a row", x.weight(d), -12);
            due("toss of a row", x.toss(d), -12);
        }
        due("bytes to longs", x.copy(0, 0, 1, 0, 1), -12);
        due("longs to bytes", x.copy(1, 0, 0, 0, 1), -12);
        due("none of them", x.copy(0, 0, 1, 0, 0), -12);
        due("from a mast", x.copy(2, 0, 0, 0, 0), -12);
        due("to a mast", x.copy(1, 0, 2, 0, 0), -12);
        due("a mast to itself", x.copy(2, 0, 2, 0, 0), -12);
    }

    private static void noPlace() {
        WavePlan x = new WavePlan();
        x.make(0, 3, 2);
        x.make(1, 3, 3);
        due("to the end", x.copy(0, 1, 1, 2, 1), 1);
        due("beyond the first's", x.copy(0, 2, 1, 0, 1), -13);
        due("beyond the second's", x.copy(0, 0, 1, 3, 1), -13);
    }

    private static void sizeBelow() {
        WavePlan x = new WavePlan();
        due("-1", x.make(0, 3, -1), -14);
        due("least", x.make(0, 4, MIN), -14);
        due("0", x.make(0, 3, 0), 0);
    }

    private static void noFailure() {
        WavePlan x = heap(PLAIN, BORDER);
        x.keep(0, 1, 0);
        x.keep(1, 1, 1);
        due("of a plain one", x.toss(0), -15);
        due("of a border one", x.toss(1), 1);
    }
}
