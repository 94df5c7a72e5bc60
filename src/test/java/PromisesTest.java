/** At least one test for each promise, by its number; the answers are worked out by hand from the document. */
public final class PromisesTest extends Offices {
    public static void main(String[] args) {
        newObject();
        mast();
        move();
        list();
        gap();
        stay();
        row();
        own();
        border();
        turn();
        bar();
        may();
        set();
        channel();
        of();
        harm();
        kept();
        broken();
        pair();
        plan();
        planSpent();
        tries();
        least();
        span();
        better();
        betterAtTheTop();
        sumsOfNarrowPairs();
        fewest();
        bound();
        crowd();
        part();
        image();
        restore();
        count();
        look();
        keep();
        make();
        element();
        copy();
        weight();
        toss();
        CHECK.finish();
    }

    private static void newObject() {
        WavePlan x = new WavePlan();
        for (int what = 0; what <= 6; what++) {
            due("1 count(" + what + ")", x.count(what), 0);
        }
        due("1 harm", x.harm(), 0);
        due("1 kept", x.kept(), 1);
        due("1 span", x.span(), -2);
        due("1 crowd", x.crowd(), 0);
        due("1 tries", x.tries(), 0);
        due("1 turn", x.turn(), 0);
        due("1 better", x.better(50), 0);
        due("1 fewest", x.fewest(2), 0);
        due("1 weight", x.weight(0), -11);
    }

    private static void mast() {
        WavePlan x = new WavePlan();
        due("2 kind below", x.mast(-1, 0, 0, 1), -1);
        due("2 kind above", x.mast(4, 0, 0, 1), -1);
        due("2 place below", x.mast(0, -1, 0, 1), -1);
        due("2 place least", x.mast(0, MIN, 0, 1), -1);
        due("2 place greatest", x.mast(0, MAX, 0, 1), -1);
        due("2 y 61", x.mast(0, at(3, 61), 0, 1), -1);
        due("2 x 61", x.mast(0, at(61, 0), 0, 1), -1);
        due("2 power below", x.mast(0, 0, -1, 1), -1);
        due("2 power above", x.mast(0, 0, 4, 1), -1);
        due("2 no wants", x.mast(0, 0, 0, 0), -1);
        due("2 four wants", x.mast(0, 0, 0, 4), -1);
        due("2 first", x.mast(3, at(60, 60), 3, 3), 0);
        due("2 where", x.look(0, 1) * 100 + x.look(0, 2), 6060);
        for (int i = 1; i < 5; i++) {
            due("2 next", x.mast(0, 0, 0, 3), i);
        }
        due("2 more than 16 wants", x.mast(0, 0, 0, 2), -2);
        due("2 out of range before full", x.mast(0, 0, 9, 2), -1);
        due("2 16 wants", x.mast(0, 0, 0, 1), 5);
        WavePlan y = line(12);
        due("2 twelve", y.count(0), 12);
        due("2 a thirteenth", y.mast(0, 0, 0, 1), -2);
        due("2 unchanged", y.count(1), 12);
    }

    private static void move() {
        WavePlan x = new WavePlan();
        x.mast(0, at(0, 0), 1, 1);
        x.mast(0, at(1, 0), 1, 1);
        x.mast(0, at(5, 0), 1, 1);
        x.row(4, 2, 3);
        due("3 stays where it is", x.move(0, at(0, 0)), 0);
        due("3 two bars turn", x.move(0, at(4, 0)), 2);
        due("3 bar gone", x.bar(0, 1), 0);
        due("3 bar come", x.bar(0, 2), 3);
        due("3 bar of the other side", x.bar(2, 0), 3);
        due("3 same bar elsewhere", x.move(0, at(5, 2)), 0);
        due("3 no mast", x.move(3, 0), -1);
        due("3 mast below", x.move(-1, 0), -1);
        due("3 no place", x.move(0, at(0, 61)), -1);
        due("3 refused changes nothing", x.look(0, 1) * 100 + x.look(0, 2), 502);
    }

    private static void list() {
        WavePlan x = line(1);
        due("4 some", x.list(0, 0b1011), 3);
        due("4 in it", x.may(0, 3), 1);
        due("4 not in it", x.may(0, 2), 0);
        due("4 none", x.list(0, 0), 0);
        due("4 all", x.list(0, ALL), 30);
        due("4 31 bits", x.list(0, ALL + 1), -1);
        due("4 negative", x.list(0, -1), -1);
        due("4 no mast", x.list(1, 1), -1);
        due("4 unchanged", x.look(0, 6), 30);
    }

    private static void gap() {
        WavePlan x = line(1);
        x.mast(1, 0, 0, 1);
        due("5 at first", x.gap(1, 10), 5);
        due("5 before", x.gap(1, 1), 10);
        due("5 too small", x.gap(1, 0), -1);
        due("5 too large", x.gap(1, 11), -1);
        due("5 no pair", x.gap(0, 3), -1);
        due("5 no mast", x.gap(2, 3), -1);
        due("5 as it was", x.look(1, 7), 1);
    }

    private static void stay() {
        WavePlan x = line(1);
        x.mast(2, 0, 0, 2);
        due("6 told", x.stay(2, 7), 0);
        due("6 may it", x.may(2, 7), 1);
        due("6 may no other", x.may(2, 8), 0);
        due("6 the one before is free", x.may(1, 8), 1);
        due("6 the plan isn't changed", x.channel(2), -2);
        due("6 channel 29", x.stay(2, 29), 0);
        due("6 channel 30", x.stay(2, 30), -1);
        due("6 channel -2", x.stay(2, -2), -1);
        due("6 not old", x.stay(0, 7), -1);
        due("6 no want", x.stay(3, 7), -1);
        due("6 still", x.may(2, 29), 1);
        due("6 on none", x.stay(2, -1), 0);
        due("6 free again", x.may(2, 8), 1);
        x.stay(2, 4);
        x.list(1, 0b111);
        due("6 not of the list", x.may(2, 4), 0);
    }

    private static void row() {
        WavePlan x = line(2);
        due("7 limit below", x.row(-1, 0, 1), -1);
        due("7 limit above", x.row(10001, 0, 1), -1);
        due("7 power below", x.row(0, -1, 1), -1);
        due("7 power above", x.row(0, 7, 1), -1);
        due("7 n below", x.row(0, 0, -1), -1);
        due("7 n above", x.row(0, 0, 5), -1);
        due("7 first", x.row(10000, 6, 4), 1);
        due("7 too strong a row", x.bar(0, 1), 0);
        due("7 second", x.row(1, 0, 2), 2);
        due("7 counts at once", x.bar(0, 1), 2);
        for (int i = 3; i <= 8; i++) {
            due("7 next", x.row(0, 0, 0), i);
        }
        due("7 a ninth", x.row(0, 0, 0), -2);
        due("7 wrong before full", x.row(0, 0, 9), -1);
    }

    private static void own() {
        WavePlan x = line(3);
        due("8 at first", x.bar(0, 0), 2);
        due("8 no sums at first", x.count(4), 0);
        due("8 told", x.own(6, 4), 0);
        due("8 own", x.bar(0, 0), 6);
        due("8 sums", x.count(4), 1);
        due("8 own above", x.own(7, 4), -1);
        due("8 own below", x.own(-1, 4), -1);
        due("8 sums below", x.own(0, -2), -1);
        due("8 sums above", x.own(0, 10001), -1);
        due("8 unchanged", x.bar(1, 1), 6);
        due("8 a little less", x.own(0, 3), 0);
        due("8 out of reach", x.count(4), 0);
        due("8 greatest", x.own(0, 10000), 0);
        due("8 none", x.own(0, -1), 0);
        x.move(1, 0);
        x.move(2, 0);
        due("8 none even at one place", x.count(4), 0);
        x.own(0, 0);
        due("8 at one place", x.count(4), 1);
    }

    private static void border() {
        WavePlan x = new WavePlan();
        x.mast(3, at(7, 0), 0, 1);
        x.mast(3, at(8, 0), 0, 1);
        x.mast(3, at(10, 0), 0, 1);
        x.mast(3, at(12, 0), 0, 1);
        x.mast(3, at(13, 0), 0, 1);
        x.mast(0, at(10, 0), 0, 1);
        due("9 told", x.border(10, 2, 0b01, 0b10), 0);
        due("9 too far below", x.may(0, 5), 1);
        due("9 below: first", x.may(1, 0), 1);
        due("9 below: second", x.may(1, 1), 0);
        due("9 on the line: first", x.may(2, 0), 0);
        due("9 on the line: second", x.may(2, 1), 1);
        due("9 above: second", x.may(3, 1), 1);
        due("9 too far above", x.may(4, 5), 1);
        due("9 plain", x.may(5, 5), 1);
        x.list(1, 0b10);
        due("9 its list, too", x.may(1, 0), 0);
        due("9 line below", x.border(-2, 0, 0, 0), -1);
        due("9 line above", x.border(61, 0, 0, 0), -1);
        due("9 width below", x.border(0, -1, 0, 0), -1);
        due("9 width above", x.border(0, 61, 0, 0), -1);
        due("9 first above", x.border(0, 0, ALL + 1, 0), -1);
        due("9 second below", x.border(0, 0, 0, -1), -1);
        due("9 unchanged", x.may(2, 5), 0);
        due("9 none", x.border(-1, 60, 0, 0), 0);
        due("9 no line", x.may(2, 5), 1);
        due("9 greatest", x.border(60, 60, ALL, 0), 0);
    }

    private static void turn() {
        WavePlan x = new WavePlan();
        x.mast(3, at(9, 0), 0, 2);
        x.mast(3, at(10, 0), 0, 1);
        x.mast(3, at(30, 0), 0, 1);
        x.border(10, 1, 0b0011, 0b0110);
        setAll(x, 0, 1, 3, 0);
        due("10 only the first loses", x.turn(), 1);
        due("10 second's strayed before", x.broken(3), 2);
        due("10 sets changed places", x.may(0, 2), 1);
        due("10 back: none loses", x.turn(), 0);
        due("10 as before", x.may(0, 0), 1);
        x.set(0, -1);
        due("10 without a channel", x.turn(), 0);
    }

    private static void bar() {
        WavePlan x = new WavePlan();
        x.mast(0, at(0, 0), 1, 1);
        x.mast(0, at(3, 4), 2, 1);
        due("11 no rows", x.bar(0, 1), 0);
        x.row(24, 0, 4);
        due("11 limit below the square", x.bar(0, 1), 0);
        x.row(25, 4, 3);
        due("11 power above both", x.bar(0, 1), 0);
        x.row(25, 3, 1);
        due("11 both at their edge", x.bar(0, 1), 1);
        x.row(100, 0, 2);
        due("11 the greatest", x.bar(1, 0), 2);
        x.row(100, 0, 1);
        due("11 not the latest", x.bar(1, 0), 2);
        due("11 own", x.bar(1, 1), 2);
        due("11 no a", x.bar(-1, 0), -1);
        due("11 no b", x.bar(0, 2), -1);
    }

    private static void may() {
        WavePlan x = new WavePlan();
        x.mast(1, 0, 0, 1);
        due("12 c + D is 29", x.may(0, 24), 1);
        due("12 c + D is 30", x.may(0, 25), 0);
        x.list(0, 0b100001);
        due("12 both of the list", x.may(0, 0), 1);
        due("12 c + D isn't", x.may(0, 5), 0);
        x.list(0, 0b1111110);
        due("12 c isn't", x.may(0, 0), 0);
        due("12 both", x.may(0, 1), 1);
        for (int c : new int[] {-1, -2, 30, 31, 32, 33, 64, MIN, MAX}) {
            due("12 no such channel " + c, x.may(0, c), 0);
        }
        due("12 no want", x.may(1, 0), -1);
        due("12 no want, no channel", x.may(-1, 99), -1);
    }

    private static void set() {
        WavePlan x = line(1);
        due("13 none before", x.set(0, 29), -2);
        due("13 before", x.set(0, 0), 29);
        due("13 channel 30", x.set(0, 30), -1);
        due("13 channel -2", x.set(0, -2), -1);
        due("13 no want", x.set(1, 0), -1);
        x.list(0, 0);
        due("13 whether it may or not", x.set(0, 3), 0);
        due("13 to none", x.set(0, -1), 3);
        due("13 was none", x.set(0, -1), -2);
    }

    private static void channel() {
        WavePlan x = line(2);
        due("14 none", x.channel(1), -2);
        x.set(1, 12);
        due("14 some", x.channel(1), 12);
        due("14 no want", x.channel(2), -1);
        due("14 below", x.channel(-1), -1);
    }

    private static void of() {
        WavePlan x = new WavePlan();
        x.mast(0, 0, 0, 2);
        x.mast(0, 0, 0, 3);
        due("15 first's last", x.of(1), 0);
        due("15 second's first", x.of(2), 1);
        due("15 second's last", x.of(4), 1);
        due("15 no want", x.of(5), -1);
        due("15 below", x.of(-1), -1);
    }

    private static void harm() {
        WavePlan x = line(2);
        x.row(1, 0, 4);
        setAll(x, 5, 5);
        due("16 lack of all", x.harm(), 4);
        setAll(x, 5, 8);
        due("16 lack of one", x.harm(), 1);
        setAll(x, 5, 9);
        due("16 enough", x.harm(), 0);
        x.list(0, 0);
        due("16 may not", x.harm(), 10);
        x.set(0, -1);
        due("16 without a channel", x.harm(), 0);
        WavePlan y = new WavePlan();
        y.mast(0, 0, 0, 3);
        setAll(y, 4, 4, 5);
        due("16 of one mast", y.harm(), 2 + 1 + 1);
        WavePlan z = new WavePlan();
        z.mast(1, 0, 0, 1);
        z.mast(1, 0, 0, 1);
        z.row(0, 0, 4);
        z.gap(1, 2);
        setAll(z, 0, 3);
        // 0 5 against 3 5: lacks 1, 4, 2, of which the greatest counts alone
        due("16 the greatest lack", z.harm(), 4);
        setAll(z, 29, 29);
        // 29 34 against 29 31, both of them channels that they may not have
        due("16 beyond the channels", z.harm(), 4 + 20);
        WavePlan s = line(3);
        s.own(2, 4);
        setAll(s, 7, 7, 7);
        due("16 each of the three may be p", s.harm(), 15);
        setAll(s, 9, 1, 5);
        due("16 p of the last", s.harm(), 5);
        setAll(s, 9, 1, 6);
        due("16 no sum", s.harm(), 0);
        WavePlan p = new WavePlan();
        p.mast(1, 0, 0, 1);
        p.mast(0, 0, 0, 2);
        p.mast(0, 0, 0, 1);
        p.own(0, 0);
        p.gap(0, 2);
        setAll(p, 3, 3, 5, 4);
        // p of mast 2 (4): 3 or 5 with 3 or 5: 3 + 5, 5 + 3; p of others: 2 p = 4 + odd never
        due("16 sums of a pair", p.harm(), 10);
    }

    private static void kept() {
        WavePlan x = line(2);
        x.row(1, 0, 1);
        due("17 none has any", x.kept(), 0);
        x.set(0, 0);
        due("17 one hasn't", x.kept(), 0);
        x.set(1, 0);
        due("17 harm", x.kept(), 0);
        x.set(1, 1);
        due("17 kept", x.kept(), 1);
    }

    private static void broken() {
        WavePlan x = new WavePlan();
        x.mast(0, at(0, 0), 0, 2);
        x.mast(0, at(1, 0), 0, 1);
        x.mast(0, at(2, 0), 0, 1);
        x.row(1, 0, 3);
        x.own(2, 4);
        x.list(2, 0b11);
        setAll(x, 4, 5, 6, 8);
        // 0-1: 2-1; 0-2: 3-2; 1-2: 3-1; 2-3: 3-2; 0-3 and 1-3 have no bar; 4 6 8 is a sum
        due("18 twos", x.broken(0), 4);
        due("18 lacks", x.broken(1), 5);
        due("18 sums", x.broken(2), 1);
        due("18 wants", x.broken(3), 1);
        due("18 harm", x.harm(), 5 + 5 + 10);
        due("18 above", x.broken(4), -1);
        due("18 below", x.broken(-1), -1);
    }

    private static void pair() {
        WavePlan x = new WavePlan();
        x.mast(0, at(0, 0), 0, 2);
        x.mast(0, at(1, 0), 0, 1);
        x.mast(0, at(2, 0), 0, 1);
        x.row(1, 0, 3);
        setAll(x, 4, 5, 6, 8);
        int[][] twos = {{0, 1, 1}, {0, 2, 1}, {1, 2, 2}, {2, 3, 1}};
        for (int i = 0; i < twos.length; i++) {
            for (int what = 0; what < 3; what++) {
                due("19 pair(" + i + ", " + what + ")", x.pair(i, what), twos[i][what]);
            }
        }
        due("19 none such", x.pair(4, 0), -1);
        due("19 far above", x.pair(MAX, 0), -1);
        due("19 below", x.pair(-1, 0), -1);
        due("19 far below", x.pair(MIN, 0), -1);
        due("19 what above", x.pair(0, 3), -1);
        due("19 what below", x.pair(0, -1), -1);
    }

    private static void plan() {
        WavePlan x = new WavePlan();
        due("20 without wants", x.plan(1), 1);
        due("20 n below", x.plan(0), -1);
        due("20 n above", x.plan(31), -1);
        x.mast(0, 0, 0, 3);
        x.set(0, 9);
        due("20 no plan", x.plan(4), 0);
        dueChannels("20 stays", x, 9, -2, -2);
        due("20 plan", x.plan(5), 1);
        dueChannels("20 planned", x, 0, 2, 4);
        x.own(0, -1);
        due("20 each above the one before", x.plan(30), 1);
        dueChannels("20 above", x, 0, 1, 2);
        due("20 so none with two", x.plan(2), 0);
        WavePlan y = new WavePlan();
        y.mast(1, 0, 0, 1);
        due("20 c + D below n", y.plan(5), 0);
        due("20 c + D below n, too", y.plan(6), 1);
        WavePlan z = line(3);
        z.own(0, 4);
        z.list(0, 0b100);
        due("20 back to the one before", z.plan(3), 1);
        // want 0 has 2 alone; 0 with 0 is no sum with 2, as 2 + 0 = 2 p only for p = 1
        dueChannels("20 sums", z, 2, 0, 0);
        z.list(2, 0b10);
        due("20 want 1 goes on", z.plan(3), 1);
        // 2 0 1 would be a sum, 2 1 1 is none
        dueChannels("20 gone on", z, 2, 1, 1);
        z.list(1, 0b1);
        due("20 none", z.plan(30), 0);
    }

    private static void planSpent() {
        WavePlan x = line(12);
        x.row(10000, 0, 1);
        x.set(0, 17);
        due("20 spent", x.plan(11), -2);
        due("20 tries of it", x.tries(), 4000);
        dueChannels("20 stays", x, 17, -2);
        due("20 refused", x.plan(0), -1);
        due("20 refused made none", x.tries(), 4000);
        due("20 enough", x.plan(12), 1);
        due("20 tries", x.tries(), 78);
        due("22 spent", x.least(), -2);
        due("22 tries of it", x.tries(), 4000);
        dueChannels("22 stays", x, 0, 1, 2, 3, 4, 5, 6, 7, 8, 9, 10, 11);
    }

    private static void tries() {
        WavePlan x = line(2);
        x.row(1, 0, 2);
        x.plan(2);
        // 0; 0, 1 no; 1; 0, 1 no: none
        due("21 all tries of none", x.tries(), 6);
        x.plan(3);
        due("21 of the latest", x.tries(), 4);
        x.least();
        // n = 1: 0; 0: 2. n = 2: 6. n = 3: 4.
        due("21 of all of least", x.tries(), 12);
        x.plan(0);
        due("21 refused", x.tries(), 12);
        x.list(0, 0);
        x.plan(30);
        due("21 a try is made of each channel", x.tries(), 30);
    }

    private static void least() {
        WavePlan x = new WavePlan();
        due("22 without wants", x.least(), 1);
        due("22 no tries", x.tries(), 0);
        x.mast(2, 0, 0, 1);
        due("22 one", x.least(), 1);
        x.stay(0, 29);
        due("22 thirty", x.least(), 30);
        due("22 its plan", x.channel(0), 29);
        due("22 its tries", x.tries(), 30 * 31 / 2);
        x.list(0, 1);
        due("22 there is none", x.least(), -3);
        due("22 stays", x.channel(0), 29);
    }

    private static void span() {
        WavePlan x = line(2);
        x.mast(1, 0, 0, 1);
        due("23 none", x.span(), -2);
        x.set(0, 7);
        due("23 one", x.span(), 0);
        x.set(1, 3);
        due("23 two", x.span(), 4);
        x.set(2, 29);
        due("23 a pair's second", x.span(), 31);
    }

    private static void better() {
        WavePlan x = line(2);
        x.row(1, 0, 3);
        setAll(x, 5, 5);
        due("24 n below", x.better(0), -1);
        due("24 n above", x.better(51), -1);
        due("24 once", x.better(50), 1);
        dueChannels("24 the least want, the least channel", x, 0, 5);
        x.list(0, 1);
        x.list(1, 0b110);
        // want 1 may be 1 or 2, both of which harm: 2 or 1 for 10
        due("24 harm that is less", x.better(1), 1);
        dueChannels("24 least harm", x, 0, 2);
        due("24 none is better", x.better(1), 0);
        WavePlan y = new WavePlan();
        y.mast(2, 0, 0, 1);
        y.mast(0, 0, 0, 1);
        y.mast(0, 0, 0, 1);
        y.row(0, 0, 1);
        y.stay(0, 0);
        setAll(y, 0, 0, -1);
        due("24 told to stay", y.better(1), 1);
        dueChannels("24 the other", y, 0, 1, -2);
        setAll(y, 3, 5, -1);
        due("24 told to stay elsewhere", y.better(1), 0);
        WavePlan z = line(4);
        z.row(10000, 0, 1);
        setAll(z, 0, 0, 0, 0);
        due("24 at most n", z.better(2), 2);
        dueChannels("24 so far", z, 1, 2, 0, 0);
        due("24 the rest", z.better(50), 1);
        dueChannels("24 all", z, 1, 2, 3, 0);
    }

    private static void betterAtTheTop() {
        WavePlan x = line(3);
        x.own(0, 4);
        x.list(0, 1 << 27);
        x.list(1, 1 << 28);
        x.list(2, 1 << 29 | 1);
        setAll(x, 27, 28, 29);
        due("24 a sum with 29", x.better(5), 1);
        dueChannels("24 away from 29", x, 27, 28, 0);
        WavePlan y = line(2);
        y.row(1, 0, 2);
        y.list(0, 1 << 28);
        y.list(1, 1 << 29 | 1);
        setAll(y, 28, 29);
        due("24 a lack at 29", y.better(5), 1);
        dueChannels("24 from the lack", y, 28, 0);
        WavePlan z = new WavePlan();
        z.mast(0, at(60, 60), 0, 1);
        z.mast(1, 0, 0, 1);
        z.mast(0, 0, 0, 1);
        z.mast(0, 0, 0, 1);
        z.own(0, 0);
        z.gap(1, 1);
        z.list(0, 1);
        setAll(z, 5, 29, 28, 29);
        // want 0 is on one that it may not have: 10; want 1 is, too, and its 30 is a sum with 28 and 29: 15
        due("24 the harm before", z.harm(), 25);
        due("24 a sum with 29 + D", z.better(1), 1);
        dueChannels("24 the greater harm first", z, 5, 0, 28, 29);
    }

    /** Three masts at one place; the one of that number is a PAIR with D = 1, the others are plain. */
    private static WavePlan narrowPair(int pair) {
        WavePlan x = new WavePlan();
        for (int m = 0; m < 3; m++) {
            x.mast(m == pair ? 1 : 0, 0, 0, 1);
        }
        x.gap(pair, 1);
        x.own(0, 0);
        return x;
    }

    private static void sumsOfNarrowPairs() {
        for (int pair = 0; pair < 3; pair++) {
            String which = ", pair " + pair;
            WavePlan x = narrowPair(pair);
            setAll(x, 2, 6, 6);
            x.set(pair == 0 ? 1 : 0, 2);
            x.set(pair, 3);
            due("18 its second channel is p" + which, x.broken(2), 1);
            x.set(pair, 4);
            due("18 its first channel is p" + which, x.broken(2), 1);
            x.set(pair, 5);
            due("18 neither is" + which, x.broken(2), 0);
        }
        for (int pair = 0; pair < 2; pair++) {
            String which = ", pair " + pair;
            WavePlan x = narrowPair(pair);
            x.list(pair, 0b11);
            x.list(1 - pair, 1 << 4);
            x.list(2, 1 << 7 | 1 << 9);
            // the pair has 0 and 1, the other one 4: 1 + 7 = 2 * 4, so the last one can't have 7
            due("20 a pair's second channel" + which, x.plan(30), 1);
            due("20 not 7" + which, x.channel(2), 9);
            x.set(2, 7);
            due("24 a pair's second channel" + which, x.better(9), 1);
            due("24 not 7" + which, x.channel(2), 9);
            x.set(2, 7);
            due("25 a pair's second channel" + which, x.fewest(2), 1);
            due("25 not 7" + which, x.channel(2), 9);
        }
    }

    private static void fewest() {
        WavePlan x = line(4);
        x.row(1, 0, 2);
        due("25 most below", x.fewest(-1), -1);
        due("25 most above", x.fewest(3), -1);
        due("25 none has any", x.fewest(0), 0);
        setAll(x, 0, 1, 4, 5);
        due("25 not by none", x.fewest(0), -2);
        due("25 not by one", x.fewest(1), -2);
        dueChannels("25 stays", x, 0, 1, 4, 5);
        due("25 by two", x.fewest(2), 2);
        // 0 and 2: 0 away from 1: 3; 2 away from 1 and 5: 3
        dueChannels("25 the least wants, then channels", x, 3, 1, 3, 5);
        setAll(x, 0, 2, 2, -1);
        due("25 by one", x.fewest(2), 1);
        dueChannels("25 one", x, 0, 4, 2, -2);
        WavePlan y = new WavePlan();
        y.mast(2, 0, 0, 1);
        y.mast(0, 0, 0, 1);
        y.row(0, 0, 1);
        y.stay(0, 4);
        setAll(y, 4, 4);
        due("25 told to stay", y.fewest(1), 1);
        dueChannels("25 the other", y, 4, 0);
        y.set(0, 5);
        due("25 none of those told to stay", y.fewest(2), -2);
        dueChannels("25 stays so", y, 5, 0);
        y.stay(0, -1);
        y.list(0, 0b1001);
        due("25 ones that they may have", y.fewest(2), 1);
        dueChannels("25 may", y, 3, 0);
    }

    private static void bound() {
        WavePlan x = new WavePlan();
        due("26 none there", x.bound(1), -1);
        x.mast(0, at(0, 0), 0, 3);
        x.mast(0, at(1, 0), 0, 3);
        x.mast(0, at(2, 0), 0, 1);
        x.mast(0, at(9, 0), 0, 1);
        x.row(4, 0, 1);
        x.row(1, 0, 3);
        due("26 no masts", x.bound(0), -1);
        due("26 one that isn't there", x.bound(0b10001), -1);
        due("26 far", x.bound(1 << 20), -1);
        due("26 negative", x.bound(-1), -1);
        due("26 least", x.bound(MIN), -1);
        due("26 one alone", x.bound(0b1000), 0);
        due("26 one's own", x.bound(0b1), 4);
        // three of each: own 2 four times and the bar 3 once
        due("26 two", x.bound(0b11), 11);
        due("26 last in the midst", x.bound(0b101), 2 + 1 + 1);
        due("26 no crowd", x.bound(0b1001), -2);
        due("26 no crowd before too many", x.bound(0b1111), -2);
        due("26 too many wants", x.bound(0b111), -3);
        x.own(6, -1);
        due("26 own is dear", x.bound(0b11), 15);
        x.own(0, -1);
        due("26 own is nothing", x.bound(0b11), 3);
    }

    private static void crowd() {
        WavePlan x = line(4);
        due("27 all bounds are 0", x.crowd(), 1);
        x.row(1, 0, 2);
        due("27 the least of the same", x.crowd(), 0b11);
        x.mast(0, at(9, 0), 0, 2);
        due("27 one mast of the same bound", x.crowd(), 0b11);
        x.own(3, -1);
        due("27 a greater one", x.crowd(), 0b10000);
        WavePlan y = new WavePlan();
        y.mast(0, 0, 0, 3);
        y.mast(0, 0, 0, 3);
        y.mast(0, 0, 0, 1);
        y.row(0, 0, 4);
        due("27 at most six wants", y.crowd(), 0b11);
        WavePlan z = line(12);
        z.row(10000, 0, 1);
        due("27 six of twelve", z.crowd(), 0b111111);
    }

    private static void part() {
        WavePlan x = new WavePlan();
        x.mast(0, at(0, 0), 0, 1);
        x.mast(0, at(30, 0), 0, 1);
        x.mast(0, at(2, 0), 0, 1);
        x.mast(0, at(4, 0), 0, 1);
        x.mast(0, at(50, 0), 0, 1);
        x.row(4, 0, 1);
        due("28 first", x.part(0), 0);
        due("28 second", x.part(1), 1);
        due("28 with the first", x.part(2), 0);
        due("28 over another", x.part(3), 0);
        due("28 third", x.part(4), 2);
        due("28 no mast", x.part(5), -1);
        due("28 below", x.part(-1), -1);
        WavePlan y = line(4);
        y.move(3, at(3, 5));
        y.own(2, 4);
        due("28 in a sum", y.part(2), 0);
        due("28 not in it", y.part(3), 1);
        y.move(2, at(40, 0));
        due("28 two are no sum", y.part(1), 1);
        due("28 parts", y.count(5), 4);
    }

    private static void image() {
        WavePlan x = line(3);
        due("29 none has any", x.image(), 0);
        setAll(x, 4, -1, 6);
        due("29 two have one", x.image(), 2);
    }

    private static void restore() {
        WavePlan x = line(3);
        due("30 there is none", x.restore(), -2);
        setAll(x, 4, -1, 6);
        x.image();
        setAll(x, 4, 5, 7);
        x.mast(0, 0, 0, 1);
        x.set(3, 9);
        due("30 two are others", x.restore(), 2);
        dueChannels("30 restored, a later want as it is", x, 4, -2, 6, 9);
        due("30 again", x.restore(), 0);
        x.set(0, -1);
        due("30 the image stays", x.restore(), 1);
    }

    private static void count() {
        WavePlan x = new WavePlan();
        x.mast(0, at(0, 0), 0, 2);
        x.mast(0, at(1, 0), 0, 3);
        x.mast(0, at(0, 1), 0, 1);
        x.mast(0, at(20, 0), 0, 1);
        x.row(1, 0, 1);
        x.row(1, 0, 1);
        x.own(0, 2);
        setAll(x, 1, 2, 3);
        int[] due = {4, 7, 2, 2, 1, 2, 3};
        for (int what = 0; what < due.length; what++) {
            due("31 count(" + what + ")", x.count(what), due[what]);
        }
        due("31 above", x.count(7), -1);
        WavePlan full = line(12);
        full.row(10000, 0, 1);
        full.own(0, 10000);
        due("31 twos of twelve", full.count(3), 66);
        due("31 threes of twelve", full.count(4), 220);
        due("31 parts of twelve", full.count(5), 1);
        due("31 below", x.count(-1), -1);
    }

    private static void look() {
        WavePlan x = line(1);
        x.mast(1, at(3, 44), 2, 3);
        x.list(1, 0b11);
        x.gap(1, 9);
        int[] due = {1, 3, 44, 2, 3, 1, 2, 9};
        for (int what = 0; what < due.length; what++) {
            due("32 look(1, " + what + ")", x.look(1, what), due[what]);
        }
        due("32 no pair", x.look(0, 7), -2);
        due("32 above", x.look(1, 8), -1);
        due("32 below", x.look(1, -1), -1);
        due("32 no mast", x.look(2, 0), -1);
        due("32 mast below", x.look(-1, 0), -1);
    }

    private static void keep() {
        WavePlan x = line(2);
        x.mast(1, at(3, 4), 1, 1);
        x.set(1, 6);
        due("33 no shelf", x.keep(8, 0, 0), -1);
        due("33 shelf below", x.keep(-1, 0, 0), -1);
        due("33 what 2", x.keep(0, 2, 0), -1);
        due("33 what 5", x.keep(0, 5, 0), -1);
        due("33 what below", x.keep(0, -1, 0), -1);
        due("33 no mast", x.keep(0, 1, 3), -1);
        due("33 no mast for squares", x.keep(0, 4, -1), -1);
        due("33 still nothing", x.weight(0), -11);
        due("33 mast", x.keep(0, 1, 2), 0);
        x.gap(2, 9);
        due("33 as it was then", x.weight(0), 2 + 5 + 1 + 5);
        due("33 bytes", x.keep(0, 3, 99), 0);
        x.set(1, 7);
        due("33 as they were then", x.element(0, 1), 6);
        due("33 none", x.element(0, 2), -2);
        due("33 squares", x.keep(7, 4, 2), 0);
        due("33 to the first", x.element(7, 0), 25);
        due("33 to itself", x.element(7, 2), 0);
        due("33 nothing", x.keep(7, 0, 99), 0);
        due("33 is held", x.weight(7), -11);
    }

    private static void make() {
        WavePlan x = line(1);
        due("34 no shelf", x.make(8, 3, 1), -1);
        due("34 what", x.make(0, 1, 1), -1);
        due("34 n above", x.make(0, 3, 61), -1);
        due("34 n below", x.make(0, 3, -1), -14);
        due("34 n far below", x.make(0, 4, MIN), -14);
        due("34 wrong before n", x.make(0, 5, -1), -1);
        due("34 still nothing", x.weight(0), -11);
        x.set(0, 9);
        x.keep(0, 3, 0);
        due("34 over another", x.make(0, 3, 60), 0);
        due("34 zero", x.element(0, 0), 0);
        due("34 the last", x.element(0, 59), 0);
        due("34 longs", x.make(0, 4, 2), 0);
        due("34 no elements", x.make(1, 3, 0), 0);
        due("34 nothing of none", x.copy(1, 0, 1, 0, 0), 0);
    }

    private static void element() {
        WavePlan x = line(1);
        due("35 no shelf", thrown(x, 8, 0), 1);
        due("35 shelf below", thrown(x, -1, -1), 1);
        due("35 nothing", thrown(x, 0, 0), 2);
        x.keep(0, 1, 0);
        due("35 no row", thrown(x, 0, 0), 2);
        x.make(0, 4, 3);
        due("35 the last", thrown(x, 0, 2), 0);
        due("35 beyond", thrown(x, 0, 3), 2);
        due("35 below", thrown(x, 0, -1), 2);
        x.make(0, 3, 0);
        due("35 of none", thrown(x, 0, 0), 2);
    }

    private static void copy() {
        WavePlan x = line(4);
        setAll(x, 10, 11, 12, 13);
        x.keep(0, 3, 0);
        x.make(1, 3, 3);
        x.keep(2, 4, 0);
        x.keep(3, 1, 0);
        due("36 some", x.copy(0, 1, 1, 1, 2), 2);
        due("36 before", x.element(1, 0), 0);
        due("36 copied", x.element(1, 1), 11);
        due("36 copied, too", x.element(1, 2), 12);
        due("36 onto itself", x.copy(0, 0, 0, 1, 3), 3);
        due("36 as they were", x.element(0, 3), 12);
        due("36 first stays", x.element(0, 1), 10);
        due("36 longs", x.copy(2, 1, 2, 0, 3), 3);
        due("36 long", x.element(2, 2), 9);
        due("36 none at the end", x.copy(0, 4, 1, 3, 0), 0);
        due("36 no d", x.copy(8, 0, 7, 0, 1), -1);
        due("36 no e", x.copy(7, 0, -1, 0, 1), -1);
        due("36 nothing in d", x.copy(7, 0, 3, 0, 1), -11);
        due("36 nothing in e", x.copy(3, 0, 7, 0, 1), -11);
        due("36 no row d", x.copy(3, -1, 0, 0, 1), -12);
        due("36 no row e", x.copy(0, 0, 3, 0, 1), -12);
        due("36 two masts", x.copy(3, 0, 3, 0, 0), -12);
        due("36 two kinds", x.copy(0, 0, 2, 0, -1), -12);
        due("36 n below", x.copy(0, 0, 1, 0, -1), -13);
        due("36 i below", x.copy(0, -1, 1, 0, 1), -13);
        due("36 j below", x.copy(0, 0, 1, -1, 1), -13);
        due("36 i beyond", x.copy(0, 5, 1, 0, 0), -13);
        due("36 beyond d", x.copy(0, 3, 1, 0, 2), -13);
        due("36 beyond e", x.copy(0, 0, 1, 0, 4), -13);
        due("36 far beyond", x.copy(0, 1, 1, 1, MAX), -13);
        due("36 far places", x.copy(0, MAX, 1, MAX, 1), -13);
    }

    private static void weight() {
        WavePlan x = line(1);
        x.mast(0, 0, 2, 3);
        x.mast(1, 0, 3, 1);
        x.mast(2, 0, 1, 2);
        x.mast(3, 0, 3, 3);
        x.gap(2, 10);
        for (int m = 0; m < 5; m++) {
            x.keep(m, 1, m);
        }
        x.make(5, 3, 1);
        int[] due = {5, 1 + 15 + 2, 2 + 5 + 3 + 10, 3 + 10 + 1 + 100, 2 * (4 + 15 + 3), -12, -11};
        for (int d = 0; d < due.length; d++) {
            due("37 weight(" + d + ")", x.weight(d), due[d]);
        }
        due("37 no shelf", x.weight(8), -1);
        due("37 below", x.weight(-1), -1);
    }

    private static void toss() {
        WavePlan x = line(3);
        x.mast(1, 0, 0, 1);
        x.mast(2, 0, 0, 1);
        x.mast(3, 0, 0, 1);
        for (int m = 0; m < 6; m++) {
            x.keep(m, 1, m);
        }
        due("38 plain", x.toss(2), -15);
        due("38 pair", x.toss(3), 3);
        due("38 old", x.toss(4), 4);
        due("38 border", x.toss(5), 5);
        due("38 nothing", x.toss(6), -11);
        x.keep(6, 3, 0);
        due("38 a row", x.toss(6), -12);
        due("38 no shelf", x.toss(8), -1);
        due("38 below", x.toss(MIN), -1);
    }
}
