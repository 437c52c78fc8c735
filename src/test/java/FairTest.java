/** Promises 12 to 17: the fair. */
public final class FairTest {
    private static final Check CHECK = new Check("FairTest");

    public static void main(String[] args) {
        goingOn();
        aheadOfNoon();
        behindNoon();
        likeOffersAreNotTaken();
        turnsWithinAMinute();
        nobodyIsAskedTwice();
        bargains();
        tornPairs();
        tornByTheWagePaid();
        tornEdges();
        foretoldOrders();
        foretoldChangesNothing();
        fullFair();
        CHECK.end();
    }

    private static void goingOn() {
        HiringFairs x = new HiringFairs();
        int[] bad = {0, -1, 241, Integer.MIN_VALUE, Integer.MAX_VALUE};
        for (int n : bad) {
            CHECK.due("go(" + n + ")", x.go(n), HiringFairs.BAD);
        }
        CHECK.due("no minute has gone by", x.total(3), 0);
        CHECK.due("go(1)", x.go(1), 1);
        CHECK.due("go(238)", x.go(238), 239);
        CHECK.due("the year has not begun", x.total(4), HiringFairs.NONE);
        CHECK.due("go(240), no farther than the end", x.go(240), 240);
        CHECK.due("the year has begun", x.total(4), 0);
        CHECK.due("minutes gone by", x.total(3), 240);
        CHECK.due("go in the year", x.go(1), HiringFairs.STATE);
        CHECK.due("go in the year, bad", x.go(0), HiringFairs.BAD);
        CHECK.due("go(240) at once", new HiringFairs().go(240), 240);
    }

    private static void aheadOfNoon() {
        HiringFairs x = oneBetweenTwo();
        x.bar(0, 1, true);
        x.go(119);
        x.bar(0, 1, false);
        CHECK.due("minute 119", x.go(1), 120);
        row(x, 0, 0, 0, 0, 19, 1, HiringFairs.NONE);
        row(x, 1, 119, 1, 0, 29, 2, 0);
        CHECK.due("bound to the other", x.about(0, 3), 1);
        CHECK.due("its wage", x.about(0, 4), 29);
        CHECK.due("its minute", x.about(0, 5), 119);
        CHECK.due("the one ahead has nobody", x.house(0, 2), HiringFairs.NONE);
        CHECK.due("bound together", x.total(2), 1);
        CHECK.due("wages together", x.total(5), 29);
    }

    private static void behindNoon() {
        HiringFairs x = oneBetweenTwo();
        x.bar(0, 1, true);
        x.go(120);
        x.bar(0, 1, false);
        CHECK.due("minute 120", x.go(1), 121);
        row(x, 1, 120, 1, 0, 29, 0, HiringFairs.NONE);
        CHECK.due("bound as ahead", x.about(0, 3), 0);
        CHECK.due("its wage", x.about(0, 4), 19);
        CHECK.due("its minute", x.about(0, 5), 0);
        CHECK.due("torn by noon", x.torn(), 1);
        CHECK.due("the torn pair", x.pair(0), 1);
        x.go(79);
        CHECK.due("a servant comes late", x.servant(0, 9, 20), 1);
        x.go(1);
        row(x, 2, 200, 1, 1, 34, 1, HiringFairs.NONE);
        CHECK.due("late ones are bound too", x.about(1, 5), 200);
        CHECK.due("both bound", x.total(2), 2);
        CHECK.due("wages together", x.total(5), 53);
    }

    private static void likeOffersAreNotTaken() {
        HiringFairs x = new HiringFairs();
        x.servant(0, 5, 10);
        x.master(0, 60);
        x.master(0, 60);
        x.master(0, 61);
        x.master(0, 62);
        x.go(1);
        row(x, 1, 0, 1, 0, 29, 0, HiringFairs.NONE);
        // 49 and 10 have their middle at 29 too, cut.
        row(x, 2, 0, 2, 0, 29, 0, HiringFairs.NONE);
        row(x, 3, 0, 3, 0, 30, 2, 0);
    }

    private static void turnsWithinAMinute() {
        HiringFairs x = new HiringFairs();
        x.servant(0, 5, 10);
        x.servant(0, 5, 12);
        x.master(0, 70);
        x.master(0, 60);
        x.bar(0, 0, true);
        x.bar(1, 0, true);
        x.go(1);
        x.bar(0, 0, false);
        x.go(1);
        row(x, 0, 0, 1, 0, 29, 1, HiringFairs.NONE);
        row(x, 1, 1, 0, 0, 34, 2, 1);
        row(x, 2, 1, 1, 1, 30, 1, HiringFairs.NONE);
        CHECK.due("three bargains", x.bargains(), 3);
        HiringFairs y = oneBetweenTwo();
        y.servant(0, 5, 12);
        y.go(1);
        CHECK.due("who loses behind its turn waits", y.bargains(), 2);
        y.go(1);
        row(y, 2, 1, 0, 1, 20, 1, HiringFairs.NONE);
    }

    private static void nobodyIsAskedTwice() {
        HiringFairs x = oneBetweenTwo();
        x.go(5);
        CHECK.due("both asked", x.bargains(), 2);
        x.hear(0, 0, 9);
        x.bar(0, 1, true);
        x.go(5);
        CHECK.due("none asked again", x.bargains(), 2);
        CHECK.due("none is next", x.next(0), HiringFairs.NONE);
        CHECK.due("asked", x.house(0, 3), 1);
    }

    private static void bargains() {
        HiringFairs x = oneBetweenTwo();
        CHECK.due("none ahead", x.bargains(), 0);
        CHECK.due("bargain 0 ahead", x.bargain(0, 0), HiringFairs.UNKNOWN);
        x.go(1);
        CHECK.due("two", x.bargains(), 2);
        row(x, 0, 0, 0, 0, 19, 1, HiringFairs.NONE);
        row(x, 1, 0, 1, 0, 29, 2, 0);
        CHECK.due("bargain 2", x.bargain(2, 0), HiringFairs.UNKNOWN);
        CHECK.due("bargain -1", x.bargain(-1, 0), HiringFairs.UNKNOWN);
        CHECK.due("bargain MAX, bad", x.bargain(Integer.MAX_VALUE, 6), HiringFairs.UNKNOWN);
        CHECK.due("bargain, bad", x.bargain(0, 6), HiringFairs.BAD);
        CHECK.due("bargain, bad below", x.bargain(1, -1), HiringFairs.BAD);
        x.hear(0, 0, 1);
        CHECK.due("the offer of then", x.bargain(0, 3), 19);
        x.go(240);
        CHECK.due("two in the year", x.bargains(), 2);
    }

    private static void tornPairs() {
        HiringFairs x = twoAndTwo();
        CHECK.due("torn, nobody bound: all who have an offer", x.torn(), 4);
        int[] all = {0, 1, 10, 11, HiringFairs.NONE};
        for (int i = 0; i < all.length; i++) {
            CHECK.due("pair(" + i + ")", x.pair(i), all[i]);
        }
        CHECK.due("pair(-1)", x.pair(-1), HiringFairs.NONE);
        CHECK.due("pair(MIN)", x.pair(Integer.MIN_VALUE), HiringFairs.NONE);
        CHECK.due("pair(MAX)", x.pair(Integer.MAX_VALUE), HiringFairs.NONE);
        x.go(2);
        CHECK.due("torn, none", x.torn(), 0);
        x.hear(1, 0, 9);
        CHECK.due("torn, one", x.torn(), 1);
        CHECK.due("the one", x.pair(0), 1);
        x.hear(0, 1, 9);
        CHECK.due("torn, two", x.torn(), 2);
        CHECK.due("the first", x.pair(0), 1);
        CHECK.due("the second", x.pair(1), 10);
        x.bar(0, 1, true);
        CHECK.due("barred ones are not torn", x.torn(), 1);
        CHECK.due("the other", x.pair(0), 10);
        x.bar(0, 1, false);
        x.hear(1, 1, 9);
        // 90 less the 29 that it pays is above 90 less 35.
        CHECK.due("its own is liked as well", x.torn(), 1);
        x.go(240);
        CHECK.due("in the year too", x.torn(), 1);
    }

    private static void tornByTheWagePaid() {
        HiringFairs x = new HiringFairs();
        x.servant(0, 5, 10);
        x.servant(0, 5, 10);
        x.master(0, 60);
        x.go(1);
        CHECK.due("like likings are not torn", x.torn(), 0);
        x.hear(0, 0, 4);
        x.hear(0, 1, 4);
        // Both would be offered 27 now, but it pays 29 to servant 0: 11 is below 13.
        CHECK.due("by the wage that it pays", x.torn(), 1);
        CHECK.due("that pair", x.pair(0), 10);
    }

    private static void tornEdges() {
        HiringFairs x = new HiringFairs();
        x.servant(0, 5, 10);
        x.master(0, 60);
        x.master(0, 59);
        x.go(5);
        CHECK.due("a lesser offer is not torn", x.torn(), 0);
        x.hear(1, 0, 6);
        // 59 less 9 and 10: 30, above 29.
        CHECK.due("a greater offer is torn", x.torn(), 1);
        x.hear(1, 0, 5);
        CHECK.due("a lesser again", x.torn(), 0);
        x.master(0, 61);
        CHECK.due("a like offer is not torn", x.torn(), 0);
        x.master(0, 62);
        CHECK.due("the next one is", x.torn(), 1);
        CHECK.due("with master 3", x.pair(0), 3);
        x.hear(0, 0, 9);
        CHECK.due("the bound are not torn by a new offer", x.torn(), 1);
    }

    private static void foretoldOrders() {
        HiringFairs x = twoAndTwo();
        x.bar(1, 1, true);
        forecast(x, 0, 1, 0, 29);
        forecast(x, 1, 2, 0, 58);
        x.bar(1, 1, false);
        forecast(x, 0, 2, 0, 58);
        x.hear(0, 0, 9);
        // Master 0 gives servant 0 35 then, master 1 gives servant 1 29.
        forecast(x, 0, 2, 0, 64);
        forecast(x, 1, 2, 0, 64);
        int[][] bad = {{-1, 0}, {2, 0}, {0, -1}, {0, 3}, {1, 3}, {Integer.MAX_VALUE, Integer.MIN_VALUE}};
        for (int[] b : bad) {
            CHECK.due("foretold, bad", x.foretold(b[0], b[1]), HiringFairs.BAD);
        }
        forecast(new HiringFairs(), 0, 0, 0, 0);
        forecast(new HiringFairs(), 1, 0, 0, 0);
    }

    private static void foretoldChangesNothing() {
        HiringFairs x = oneBetweenTwo();
        forecast(x, 0, 1, 0, 29);
        forecast(x, 1, 1, 0, 29);
        CHECK.due("no bargain", x.bargains(), 0);
        CHECK.due("no minute", x.total(3), 0);
        CHECK.due("nobody bound", x.total(2), 0);
        CHECK.due("nobody asked", x.next(0), 0);
        x.bar(0, 1, true);
        x.go(130);
        x.bar(0, 1, false);
        // A whole fair anew, though this one is behind noon, and has asked.
        forecast(x, 0, 1, 0, 29);
        CHECK.due("bound as ahead", x.about(0, 4), 19);
        CHECK.due("one bargain", x.bargains(), 1);
        x.go(240);
        forecast(x, 0, 1, 0, 29);
        CHECK.due("the day as ahead", x.total(4), 0);
    }

    private static void fullFair() {
        HiringFairs x = new HiringFairs();
        for (int i = 0; i < 10; i++) {
            x.servant(0, 5, 10);
            x.master(0, 60);
        }
        CHECK.due("all torn ahead", x.torn(), 100);
        CHECK.due("the last of them", x.pair(99), 99);
        CHECK.due("none behind it", x.pair(100), HiringFairs.NONE);
        x.go(240);
        // Master i asks i bound servants in vain, then its own: 1 + 2 + .. + 10.
        CHECK.due("bargains of ten and ten", x.bargains(), 55);
        CHECK.due("all bound", x.total(2), 10);
        CHECK.due("all wages", x.total(5), 290);
        CHECK.due("all at work", x.hands(0, 363), 10);
        CHECK.due("the last one's wages", x.owes(9, 363), 348);
        row(x, 54, 9, 9, 9, 29, 1, HiringFairs.NONE);
        HiringFairs y = new HiringFairs();
        for (int i = 0; i < 10; i++) {
            y.servant(0, 5, 10);
            y.master(0, 60 + 2 * i);
        }
        y.go(1);
        CHECK.due("each outbids the one ahead", y.bargains(), 10);
        row(y, 9, 0, 9, 0, 38, 2, 8);
        y.go(239);
        CHECK.due("all asked by each until bound", y.bargains(), 55);
        CHECK.due("all bound", y.total(2), 10);
    }

    private static void row(HiringFairs x, int i, int... want) {
        for (int what = 0; what < want.length; what++) {
            CHECK.due("bargain(" + i + ", " + what + ")", x.bargain(i, what), want[what]);
        }
    }

    private static void forecast(HiringFairs x, int how, int... want) {
        for (int what = 0; what < want.length; what++) {
            CHECK.due("foretold(" + how + ", " + what + ")", x.foretold(how, what), want[what]);
        }
    }

    /** Servant 0, to whom master 0 offers 19 and master 1 offers 29. */
    private static HiringFairs oneBetweenTwo() {
        HiringFairs x = new HiringFairs();
        x.servant(0, 5, 10);
        x.master(0, 40);
        x.master(0, 60);
        return x;
    }

    /** Two servants and two masters, all offers 29. */
    private static HiringFairs twoAndTwo() {
        HiringFairs x = new HiringFairs();
        x.servant(0, 5, 10);
        x.servant(0, 5, 10);
        x.master(0, 60);
        x.master(0, 60);
        return x;
    }
}
