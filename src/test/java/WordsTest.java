/** The words of the document that TermsTest, EdgesTest and RefusalsTest don't quote; the answers are worked out by hand. */
public final class WordsTest extends Offices {
    public static void main(String[] args) {
        new Sentences(CHECK, "Terms")
                .says("1 PAIR: each WANT has a channel c and also c + D, D its own", WordsTest::eachWantOfPair)
                .says("The BAR of two MASTS is the greatest n of the ROWS", WordsTest::greatestOfRows)
                .says("(of a PAIR: c + D, too), and allowed by THE BORDER, and it is no other", WordsTest::allowedByBorder)
                .says("that have channels of which two, one of each, differ by less than the BAR", WordsTest::twoOneOfEach)
                .says("with channels p of one of them, q and r of the others, q + r = 2 p", WordsTest::othersOfThree)
                .says("TRIES: to plan with channels below n: WANT by WANT, by numbers, channel by channel",
                        WordsTest::wantByWant)
                .says("it is above the one before; then the next WANT;", WordsTest::thenTheNext)
                .says("a MAST (as it is then), a ROW of bytes or longs.", WordsTest::bytesOrLongs);
        new Sentences(CHECK, "Promise 2: mast").says("its number. -1; -2:", WordsTest::mastRefused);
        new Sentences(CHECK, "Promise 6: stay").says("A WANT of an OLD MAST is told to stay", WordsTest::wantOfOld);
        new Sentences(CHECK, "Promise 10: turn").says("The treaty's turn: both sets change places", WordsTest::setsChange);
        new Sentences(CHECK, "Promise 25: fewest").says("-2: not by so many. THE PLAN becomes that:", WordsTest::becomes);
        CHECK.finish();
    }

    private static void eachWantOfPair() {
        WavePlan x = new WavePlan();
        x.mast(PAIR, 0, 0, 3);
        x.mast(PAIR, 0, 0, 1);
        x.mast(PLAIN, 0, 0, 1);
        x.row(0, 0, 1);
        x.own(1, -1);
        x.gap(0, 7);
        setAll(x, 0, 1, 2, 20, 9);
        due("9 is 2 + 7 of the third", x.broken(0), 1);
        due("the third", x.pair(0, 0), 2);
        x.set(4, 8);
        due("8 is 1 + 7 of the second", x.pair(0, 0), 1);
        x.set(4, 7);
        due("7 is 0 + 7 of the first", x.pair(0, 0), 0);
        x.set(4, 25);
        due("25 is 20 + 5: the other pair has its own", x.pair(0, 0), 3);
        x.set(4, 27);
        due("27 would be 20 + 7", x.harm(), 0);
        x.set(2, 8);
        due("two of one mast, by 1 and 8", x.harm(), 1);
    }

    private static void greatestOfRows() {
        WavePlan x = new WavePlan();
        x.mast(PLAIN, at(0, 0), 1, 1);
        x.mast(PLAIN, at(3, 4), 1, 1);
        due("the first row", x.row(25, 2, 2), 1);
        due("of one", x.bar(0, 1), 2);
        x.row(100, 0, 1);
        due("a later, smaller one", x.bar(0, 1), 2);
        x.row(25, 0, 4);
        due("a later, greater one", x.bar(0, 1), 4);
        x.row(30, 1, 3);
        due("behind the greatest", x.bar(0, 1), 4);
        due("from the other side", x.bar(1, 0), 4);
        x.move(1, at(1, 5));
        due("26: that of 30 is greatest", x.bar(0, 1), 3);
        x.move(1, at(0, 6));
        due("36: that of 100 alone", x.bar(1, 0), 1);
    }

    private static void allowedByBorder() {
        WavePlan x = heap(BORDER, PLAIN, PAIR, OLD);
        x.border(0, 0, only(1), only(2, 3));
        due("3 is of the set, and of the list", x.may(0, 3), 1);
        x.list(0, only(1, 2));
        due("2 of both", x.may(0, 2), 1);
        due("3 of the set alone", x.may(0, 3), 0);
        due("1 of the list alone", x.may(0, 1), 0);
        for (int w = 1; w < 4; w++) {
            due("the border is not for " + w, x.may(w, 1), 1);
            due("nor its sets", x.may(w, 7), 1);
        }
        x.set(0, 1);
        due("1 is a stray", x.harm(), 10);
        due("plan takes what the border allows", x.plan(30), 1);
        due("2", x.channel(0), 2);
        x.list(0, only(1));
        due("no plan, as none is allowed by both", x.plan(30), 0);
    }

    private static void twoOneOfEach() {
        WavePlan x = heap(PAIR, PAIR);
        x.row(0, 0, 3);
        x.gap(0, 2);
        x.gap(1, 10);
        setAll(x, 10, -1);
        due("its own two differ by 2 alone, which is no lack", x.harm(), 0);
        x.set(1, 15);
        due("10 and 12, 15 and 25", x.harm(), 0);
        x.set(1, 14);
        due("12 and 14 lack 1", x.pair(0, 2), 1);
        x.set(1, 0);
        due("10 and 10 lack 3, 12 and 10 but 1", x.pair(0, 2), 3);
        x.set(1, 3);
        due("12 and 13 lack 2", x.pair(0, 2), 2);
        due("one pair of wants", x.broken(0), 1);
        due("counted once, by the greatest", x.harm(), 2);
        x.set(0, -1);
        due("one has none", x.broken(0), 0);
    }

    private static void othersOfThree() {
        WavePlan x = heap(PAIR, PLAIN, PLAIN);
        x.own(2, 0);
        x.gap(0, 4);
        setAll(x, 2, 8, 20);
        due("2 and 6, 8, 20: none", x.broken(2), 0);
        x.set(2, 4);
        due("p 6 of the pair, q 8 and r 4", x.broken(2), 1);
        x.set(2, 14);
        due("p 8, q 2 and r 14; 6 would want 10", x.broken(2), 1);
        x.set(2, 10);
        due("p 8, q 6 and r 10", x.broken(2), 1);
        x.set(1, 4);
        x.set(2, 4);
        due("2, 4, 4 and 6, 4, 4: none", x.broken(2), 0);
        x.set(2, 6);
        due("p 4, q 2 and r 6; p 4 with 6 and 6: none", x.broken(2), 1);
        x.set(1, 6);
        due("6, 6, 6: each may be p; 2, 6, 6: none", x.broken(2), 3);
        x.set(1, 2);
        due("2, 2, 6 and 6, 2, 6: none", x.broken(2), 0);
        x.set(1, 10);
        due("p 6 of the third, q 2 of the pair and r 10", x.broken(2), 1);
    }

    private static void wantByWant() {
        WavePlan x = line(3);
        x.row(4, 0, 1);
        x.list(0, only(1, 2));
        setAll(x, 9, 9, 9);
        due("below 3", x.plan(3), 1);
        dueChannels("want 0 first", x, 1, 0, 2);
        // 0: 0, 1; 1: 0; 2: 0, 1, 2
        due("tries", x.tries(), 6);
        setAll(x, 9, 9, 9);
        due("below 2", x.plan(2), 0);
        // 0: 0, 1; 1: 0; 2: 0, 1; 1: 1
        due("tries to the end", x.tries(), 6);
        dueChannels("it stays", x, 9, 9, 9);
    }

    private static void thenTheNext() {
        WavePlan x = new WavePlan();
        x.mast(PLAIN, at(0, 0), 0, 3);
        x.mast(PLAIN, at(0, 0), 0, 2);
        x.own(0, -1);
        due("a plan", x.plan(3), 1);
        dueChannels("above the one before; the next mast from 0 on", x, 0, 1, 2, 0, 1);
        // 0; 0, 1; 0, 1, 2; 0; 0, 1
        due("each want from 0 on", x.tries(), 9);
        due("two are too few", x.plan(2), 0);
        // 0: 0; 1: 0, 1; 2: 0, 1; 0: 1; 1: 0, 1
        due("tries", x.tries(), 8);
    }

    private static void bytesOrLongs() {
        WavePlan x = new WavePlan();
        x.mast(PLAIN, at(0, 0), 0, 2);
        x.mast(PLAIN, at(60, 60), 0, 1);
        setAll(x, 29, -1, 0);
        x.keep(0, 3, 0);
        x.keep(1, 4, 0);
        dueRow("bytes", x, 0, 29, -2, 0);
        dueRow("longs", x, 1, 0, 7200);
        due("bytes are not longs", x.copy(0, 0, 1, 0, 1), -12);
        x.make(2, 3, 3);
        x.make(3, 4, 2);
        due("bytes to bytes", x.copy(0, 0, 2, 0, 3), 3);
        due("longs to longs", x.copy(1, 0, 3, 0, 2), 2);
        due("longs are not bytes", x.copy(3, 0, 2, 0, 1), -12);
        x.set(0, 1);
        x.move(1, at(0, 0));
        dueRow("bytes as they were", x, 2, 29, -2, 0);
        dueRow("longs as they were", x, 3, 0, 7200);
    }

    private static void mastRefused() {
        WavePlan x = new WavePlan();
        int[][] wrong = {
            {-1, 0, 0, 1}, {4, 0, 0, 1}, {MIN, 0, 0, 1}, {MAX, 0, 0, 1}, {0, -1, 0, 1}, {0, 61, 0, 1}, {0, at(61, 0), 0, 1},
            {0, MIN, 0, 1}, {0, MAX, 0, 1}, {0, 0, -1, 1}, {0, 0, 4, 1}, {0, 0, 0, 0}, {0, 0, 0, 4}, {0, 0, 0, -1},
            {0, 0, 0, MIN}, {0, 0, 0, MAX}
        };
        for (int[] a : wrong) {
            due("mast(" + a[0] + ", " + a[1] + ", " + a[2] + ", " + a[3] + ")", x.mast(a[0], a[1], a[2], a[3]), -1);
        }
        due("none came", x.count(0), 0);
        due("no wants", x.count(1), 0);
        due("the first", x.mast(3, at(60, 60), 3, 3), 0);
    }

    private static void wantOfOld() {
        WavePlan x = new WavePlan();
        x.mast(PLAIN, 0, 0, 1);
        x.mast(OLD, 0, 0, 2);
        x.mast(PAIR, 0, 0, 1);
        x.mast(BORDER, 0, 0, 1);
        int[] answers = {-1, 0, 0, -1, -1};
        for (int w = 0; w < answers.length; w++) {
            due("stay(" + w + ", 6)", x.stay(w, 6), answers[w]);
            due("may have 5", x.may(w, 5), answers[w] == 0 ? 0 : 1);
            due("has none by that", x.channel(w), -2);
        }
        due("one of a mast's two goes free", x.stay(2, -1), 0);
        due("the first stays", x.may(1, 5), 0);
        due("the second is free", x.may(2, 5), 1);
    }

    private static void setsChange() {
        WavePlan x = new WavePlan();
        x.mast(BORDER, at(4, 0), 0, 1);
        x.mast(BORDER, at(5, 0), 0, 1);
        x.border(5, 1, only(1), only(2));
        setAll(x, 1, 1);
        due("the first may no more; the second didn't before", x.turn(), 1);
        due("west has the second set now", x.may(0, 2), 1);
        due("east the first", x.may(1, 1), 1);
        due("one is a stray", x.broken(3), 1);
        due("turned back", x.turn(), 1);
        due("as before", x.may(0, 1), 1);
        due("as before, east", x.may(1, 2), 1);
        x.border(-1, 1, only(1), only(2));
        due("no line: nothing changes", x.turn(), 0);
        due("no line", x.broken(3), 0);
    }

    private static void becomes() {
        WavePlan x = heap(PLAIN, PLAIN, PLAIN);
        x.row(0, 0, 1);
        setAll(x, 4, 4, 4);
        due("not by one", x.fewest(1), -2);
        dueChannels("so it stays", x, 4, 4, 4);
        due("by two", x.fewest(2), 2);
        dueChannels("the least wants, the least channels", x, 0, 1, 4);
        due("none any more", x.fewest(0), 0);
        dueChannels("as it was", x, 0, 1, 4);
    }
}
