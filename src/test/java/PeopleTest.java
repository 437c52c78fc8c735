/** Promises 1 to 11: a new object, and the people. */
public final class PeopleTest {
    private static final Check CHECK = new Check("PeopleTest");

    public static void main(String[] args) {
        newObject();
        servants();
        masters();
        bars();
        hearing();
        passing();
        aboutServants();
        houses();
        held();
        offers();
        nextOnes();
        CHECK.end();
    }

    private static void newObject() {
        HiringFairs x = new HiringFairs();
        int[] totals = {0, 0, 0, 0, HiringFairs.NONE, 0, 0};
        for (int what = 0; what < totals.length; what++) {
            CHECK.due("new: total(" + what + ")", x.total(what), totals[what]);
        }
        CHECK.due("new: bargains", x.bargains(), 0);
        CHECK.due("new: torn", x.torn(), 0);
        CHECK.due("new: about(0, 0)", x.about(0, 0), HiringFairs.UNKNOWN);
        CHECK.due("new: house(0, 0)", x.house(0, 0), HiringFairs.UNKNOWN);
        CHECK.due("new: go through with nobody", x.go(240), 240);
    }

    private static void servants() {
        HiringFairs x = new HiringFairs();
        int[][] bad = {{-1, 5, 5}, {3, 5, 5}, {0, 0, 5}, {0, 10, 5}, {0, 5, 0}, {0, 5, 61},
            {Integer.MIN_VALUE, 5, 5}, {0, Integer.MAX_VALUE, 5}, {0, 5, Integer.MAX_VALUE}};
        for (int[] b : bad) {
            CHECK.due("servant, bad", x.servant(b[0], b[1], b[2]), HiringFairs.BAD);
        }
        CHECK.due("bad ones are not there", x.total(0), 0);
        CHECK.due("servant, least of all", x.servant(0, 1, 1), 0);
        CHECK.due("servant, most of all", x.servant(2, 9, 60), 1);
        for (int i = 2; i < 10; i++) {
            CHECK.due("servant " + i, x.servant(1, 5, 10), i);
        }
        CHECK.due("servant, 11th", x.servant(1, 5, 10), HiringFairs.FULL);
        CHECK.due("servant, 11th and bad", x.servant(3, 5, 10), HiringFairs.BAD);
        CHECK.due("ten", x.total(0), 10);
        CHECK.due("in the fair", x.go(239), 239);
        CHECK.due("servant, 11th, fair", x.servant(1, 5, 10), HiringFairs.FULL);
        x.go(1);
        CHECK.due("servant, 11th, year", x.servant(1, 5, 10), HiringFairs.STATE);
        CHECK.due("servant, bad, year", x.servant(1, 5, 0), HiringFairs.BAD);
        HiringFairs late = new HiringFairs();
        late.go(239);
        CHECK.due("servant in the last minute", late.servant(0, 1, 1), 0);
        late.go(1);
        CHECK.due("servant in the year", late.servant(0, 1, 1), HiringFairs.STATE);
        CHECK.due("refused in the year", late.total(0), 1);
    }

    private static void masters() {
        HiringFairs x = new HiringFairs();
        int[][] bad = {{-1, 5}, {3, 5}, {0, 0}, {0, 91}, {Integer.MAX_VALUE, 5}, {0, Integer.MIN_VALUE}};
        for (int[] b : bad) {
            CHECK.due("master, bad", x.master(b[0], b[1]), HiringFairs.BAD);
        }
        CHECK.due("bad ones are not there", x.total(1), 0);
        CHECK.due("master, least of all", x.master(0, 1), 0);
        CHECK.due("master, most of all", x.master(2, 90), 1);
        for (int i = 2; i < 10; i++) {
            CHECK.due("master " + i, x.master(1, 50), i);
        }
        CHECK.due("master, 11th", x.master(1, 50), HiringFairs.FULL);
        CHECK.due("master, 11th and bad", x.master(1, 91), HiringFairs.BAD);
        CHECK.due("ten", x.total(1), 10);
        x.go(240);
        CHECK.due("master, 11th, year", x.master(1, 50), HiringFairs.STATE);
        CHECK.due("master, bad, year", x.master(1, 0), HiringFairs.BAD);
        HiringFairs late = new HiringFairs();
        late.go(239);
        CHECK.due("master in the last minute", late.master(0, 1), 0);
        late.go(1);
        CHECK.due("master in the year", late.master(0, 1), HiringFairs.STATE);
        CHECK.due("refused in the year", late.total(1), 1);
    }

    private static void bars() {
        HiringFairs x = threeAndTwo();
        CHECK.due("bar, none was", x.bar(1, 0, true), 0);
        CHECK.due("bar, one was", x.bar(1, 0, true), 1);
        CHECK.due("offer behind a bar", x.offer(0, 1), HiringFairs.NONE);
        CHECK.due("offer to another servant", x.offer(0, 0), 24);
        CHECK.due("offer of another master", x.offer(1, 1), 29);
        CHECK.due("bar away, one was", x.bar(1, 0, false), 1);
        CHECK.due("bar away, none was", x.bar(1, 0, false), 0);
        CHECK.due("offer again", x.offer(0, 1), 19);
        CHECK.due("bar, servant unknown", x.bar(3, 0, true), HiringFairs.UNKNOWN);
        CHECK.due("bar, servant below", x.bar(-1, 0, true), HiringFairs.UNKNOWN);
        CHECK.due("bar, master unknown", x.bar(2, 2, true), HiringFairs.UNKNOWN);
        CHECK.due("bar, master below", x.bar(0, -1, true), HiringFairs.UNKNOWN);
        x.go(240);
        CHECK.due("bound", x.about(1, 3), 1);
        CHECK.due("bar in the year", x.bar(1, 1, true), 0);
        CHECK.due("a bar does not part the bound", x.about(1, 3), 1);
    }

    private static void hearing() {
        HiringFairs x = threeAndTwo();
        CHECK.due("hear, nothing ahead", x.hear(0, 2, 9), 5);
        CHECK.due("hear, 9 ahead", x.hear(0, 2, 1), 9);
        CHECK.due("hear, 1 ahead", x.hear(0, 2, 4), 1);
        CHECK.due("hear, too low", x.hear(0, 2, 0), HiringFairs.BAD);
        CHECK.due("hear, too high", x.hear(0, 2, 10), HiringFairs.BAD);
        CHECK.due("what is bad is not heard", x.holds(0, 2), 4);
        CHECK.due("hear, master unknown", x.hear(2, 0, 4), HiringFairs.UNKNOWN);
        CHECK.due("hear, master below, bad", x.hear(-1, 0, 0), HiringFairs.UNKNOWN);
        CHECK.due("hear, servant unknown, bad", x.hear(0, 3, 10), HiringFairs.UNKNOWN);
        CHECK.due("hear, servant below", x.hear(0, -1, 5), HiringFairs.UNKNOWN);
        x.go(240);
        CHECK.due("hear in the year", x.hear(0, 2, 7), 4);
        CHECK.due("heard in the year", x.holds(0, 2), 7);
    }

    private static void passing() {
        HiringFairs x = threeAndTwo();
        CHECK.due("pass, heard nothing", x.pass(0, 1, 2), HiringFairs.STATE);
        x.hear(0, 2, 5);
        CHECK.due("pass, both one", x.pass(0, 0, 2), HiringFairs.STATE);
        CHECK.due("pass, the other way", x.pass(1, 0, 2), HiringFairs.STATE);
        CHECK.due("pass a 5 that was heard", x.pass(0, 1, 2), 5);
        CHECK.due("pass back", x.pass(1, 0, 2), 5);
        x.hear(1, 2, 8);
        CHECK.due("pass over what was heard", x.pass(1, 0, 2), 8);
        CHECK.due("held by what was passed on", x.holds(0, 2), 8);
        CHECK.due("still held by the other", x.holds(1, 2), 8);
        CHECK.due("others are not touched", x.holds(0, 1), 5);
        CHECK.due("pass, from unknown", x.pass(2, 1, 2), HiringFairs.UNKNOWN);
        CHECK.due("pass, from below", x.pass(-1, 1, 2), HiringFairs.UNKNOWN);
        CHECK.due("pass, to unknown, nothing heard", x.pass(0, 2, 0), HiringFairs.UNKNOWN);
        CHECK.due("pass, to below", x.pass(0, -1, 2), HiringFairs.UNKNOWN);
        CHECK.due("pass, servant unknown, both one", x.pass(0, 0, 3), HiringFairs.UNKNOWN);
        CHECK.due("pass, servant below", x.pass(0, 1, -1), HiringFairs.UNKNOWN);
    }

    private static void aboutServants() {
        HiringFairs x = threeAndTwo();
        int[] ahead = {1, 6, 11, HiringFairs.NONE, HiringFairs.NONE, HiringFairs.NONE, HiringFairs.NONE};
        for (int what = 0; what < ahead.length; what++) {
            CHECK.due("about(2, " + what + ") ahead", x.about(2, what), ahead[what]);
        }
        x.go(3);
        // Minute 0: each master asks servant 1, minute 1: master 0, whom it left, asks servant 0.
        int[] bound = {0, 9, 20, 0, 24, 1, HiringFairs.NONE};
        for (int what = 0; what < bound.length; what++) {
            CHECK.due("about(0, " + what + ") in the fair", x.about(0, what), bound[what]);
        }
        CHECK.due("about(1, 3)", x.about(1, 3), 1);
        CHECK.due("about(1, 4)", x.about(1, 4), 29);
        CHECK.due("about(1, 5)", x.about(1, 5), 0);
        x.go(240);
        CHECK.due("about(0, 6) in the year", x.about(0, 6), 363);
        CHECK.due("about(2, 6) in the year", x.about(2, 6), HiringFairs.NONE);
        CHECK.due("about, unknown, bad", x.about(3, 7), HiringFairs.UNKNOWN);
        CHECK.due("about, below", x.about(-1, 0), HiringFairs.UNKNOWN);
        CHECK.due("about, bad", x.about(0, 7), HiringFairs.BAD);
        CHECK.due("about, bad below", x.about(0, -1), HiringFairs.BAD);
    }

    private static void houses() {
        HiringFairs x = threeAndTwo();
        int[] ahead = {0, 60, HiringFairs.NONE, 0};
        for (int what = 0; what < ahead.length; what++) {
            CHECK.due("house(1, " + what + ") ahead", x.house(1, what), ahead[what]);
        }
        x.go(1);
        CHECK.due("house(0, 2), its shilling came back", x.house(0, 2), HiringFairs.NONE);
        CHECK.due("house(0, 3)", x.house(0, 3), 1);
        CHECK.due("house(1, 2)", x.house(1, 2), 1);
        x.go(1);
        CHECK.due("house(0, 2), a second one", x.house(0, 2), 0);
        CHECK.due("house(0, 3), two asked", x.house(0, 3), 2);
        CHECK.due("house(1, 3), one asked", x.house(1, 3), 1);
        CHECK.due("house, unknown, bad", x.house(2, 4), HiringFairs.UNKNOWN);
        CHECK.due("house, below", x.house(-1, 0), HiringFairs.UNKNOWN);
        CHECK.due("house, bad", x.house(0, 4), HiringFairs.BAD);
        CHECK.due("house, bad below", x.house(0, -1), HiringFairs.BAD);
        CHECK.due("house, kind", kindOfHouse(), 2);
    }

    private static int kindOfHouse() {
        HiringFairs x = new HiringFairs();
        x.master(2, 30);
        return x.house(0, 0);
    }

    private static void held() {
        HiringFairs x = threeAndTwo();
        CHECK.due("holds, nothing heard", x.holds(1, 0), 5);
        x.hear(1, 0, 3);
        CHECK.due("holds what was heard", x.holds(1, 0), 3);
        CHECK.due("another master holds as ahead", x.holds(0, 0), 5);
        CHECK.due("another servant is held as ahead", x.holds(1, 1), 5);
        CHECK.due("holds, master unknown", x.holds(2, 0), HiringFairs.UNKNOWN);
        CHECK.due("holds, master below", x.holds(-1, 0), HiringFairs.UNKNOWN);
        CHECK.due("holds, servant unknown", x.holds(0, 3), HiringFairs.UNKNOWN);
        CHECK.due("holds, servant below", x.holds(0, -1), HiringFairs.UNKNOWN);
    }

    private static void offers() {
        HiringFairs x = threeAndTwo();
        CHECK.due("offer, cut", x.offer(0, 1), 19);
        CHECK.due("offer, another kind", x.offer(0, 2), HiringFairs.NONE);
        CHECK.due("offer, unknown master", x.offer(2, 0), HiringFairs.UNKNOWN);
        CHECK.due("offer, master below", x.offer(-1, 0), HiringFairs.UNKNOWN);
        CHECK.due("offer, unknown servant", x.offer(0, 3), HiringFairs.UNKNOWN);
        CHECK.due("offer, servant below", x.offer(0, -1), HiringFairs.UNKNOWN);
        // The most is 40, so by 3 a step 16 at 1 and 40 at 9; the least is 20.
        int[] offers = {HiringFairs.NONE, HiringFairs.NONE, 21, 22, 24, 25, 27, 28, 30};
        for (int told = 1; told <= 9; told++) {
            x.hear(0, 0, told);
            CHECK.due("offer, held for " + told, x.offer(0, 0), offers[told - 1]);
        }
        HiringFairs edge = new HiringFairs();
        edge.servant(1, 1, 20);
        edge.master(1, 32);
        edge.master(1, 31);
        CHECK.due("offer, just the least", edge.offer(0, 0), 20);
        CHECK.due("offer, one below the least", edge.offer(1, 0), HiringFairs.NONE);
        edge.go(240);
        CHECK.due("offer, in the year", edge.offer(0, 0), 20);
    }

    private static void nextOnes() {
        HiringFairs x = threeAndTwo();
        CHECK.due("next, the lesser offer is liked more", x.next(0), 1);
        x.hear(0, 0, 9);
        // 90 less 30 is 60, and 50 less 19 is 31.
        CHECK.due("next, held for more", x.next(0), 0);
        x.bar(0, 0, true);
        CHECK.due("next, but for the barred", x.next(0), 1);
        x.go(1);
        CHECK.due("next, though one is bound", x.next(1), 0);
        CHECK.due("next, nobody is left", x.next(0), HiringFairs.NONE);
        x.bar(0, 0, false);
        CHECK.due("next, unbarred", x.next(0), 0);
        CHECK.due("next, unknown", x.next(2), HiringFairs.UNKNOWN);
        CHECK.due("next, below", x.next(-1), HiringFairs.UNKNOWN);
        HiringFairs like = new HiringFairs();
        like.master(0, 60);
        CHECK.due("next, no servant", like.next(0), HiringFairs.NONE);
        like.servant(0, 1, 20);
        like.servant(0, 9, 20);
        CHECK.due("next, of like ones the lesser", like.next(0), 0);
        CHECK.due("next, 10 a number: 50 less 29 is 60 less 39", nextOfFiveAndSix(27), 0);
        CHECK.due("next, 10 a number: 50 less 29 is below 60 less 38", nextOfFiveAndSix(26), 1);
        HiringFairs low = new HiringFairs();
        low.master(0, 90);
        low.servant(0, 9, 60);
        low.hear(0, 0, 1);
        // A liking of 10 less 63 is below 0, and still the greatest one.
        CHECK.due("next, a liking below 0", low.next(0), 0);
        low.servant(0, 9, 59);
        low.hear(0, 1, 1);
        CHECK.due("next, the greater below 0", low.next(0), 1);
    }

    /** Servant 0 is held for 5 and offered 29, servant 1 held for 6 and offered the middle of 51 and its least. */
    private static int nextOfFiveAndSix(int least) {
        HiringFairs x = new HiringFairs();
        x.master(0, 60);
        x.servant(0, 1, 10);
        x.servant(0, 1, least);
        x.hear(0, 1, 6);
        return x.next(0);
    }

    /** Servants 0 and 1 (ploughs) and 2 (dairy); masters 0 and 1 want ploughs. */
    private static HiringFairs threeAndTwo() {
        HiringFairs x = new HiringFairs();
        x.servant(0, 9, 20);
        x.servant(0, 4, 10);
        x.servant(1, 6, 11);
        x.master(0, 40);
        x.master(0, 60);
        return x;
    }
}
