/** Promises 18 to 27: the year. */
public final class YearTest {
    private static final Check CHECK = new Check("YearTest");

    public static void main(String[] args) {
        texts();
        dayAfterDay();
        sickness();
        sicknessAtTheEdges();
        warnings();
        warningsAtTheEnd();
        running();
        runningByTheText();
        sending();
        wages();
        owing();
        handsAtWork();
        totals();
        CHECK.end();
    }

    private static void texts() {
        HiringFairs x = new HiringFairs();
        CHECK.due("text 0 at first", x.text(1), 0);
        CHECK.due("text 1 then", x.text(1), 1);
        CHECK.due("text, bad", x.text(2), HiringFairs.BAD);
        CHECK.due("text, bad below", x.text(-1), HiringFairs.BAD);
        CHECK.due("total(6)", x.total(6), 1);
        CHECK.due("text back", x.text(0), 1);
        CHECK.due("total(6) back", x.total(6), 0);
        x.go(240);
        CHECK.due("text in the year", x.text(1), 0);
    }

    private static void dayAfterDay() {
        HiringFairs x = new HiringFairs();
        CHECK.due("days ahead of the year", x.days(1), HiringFairs.STATE);
        CHECK.due("days ahead of the year, bad", x.days(0), HiringFairs.BAD);
        x.go(240);
        int[] bad = {0, -1, 364, Integer.MAX_VALUE, Integer.MIN_VALUE};
        for (int n : bad) {
            CHECK.due("days(" + n + ")", x.days(n), HiringFairs.BAD);
        }
        CHECK.due("days(1)", x.days(1), 1);
        CHECK.due("days(363), behind the end", x.days(363), HiringFairs.FULL);
        CHECK.due("the day as ahead", x.total(4), 1);
        CHECK.due("days(362)", x.days(362), 363);
        CHECK.due("days(1), behind the end", x.days(1), HiringFairs.FULL);
        CHECK.due("days(364), behind the end", x.days(364), HiringFairs.BAD);
        HiringFairs y = new HiringFairs();
        y.go(240);
        CHECK.due("days(363) at once", y.days(363), 363);
    }

    private static void sickness() {
        HiringFairs x = fairOfFour();
        CHECK.due("sick ahead of the year", x.sick(0, 1), HiringFairs.STATE);
        CHECK.due("sick ahead of the year, bad", x.sick(0, 0), HiringFairs.BAD);
        x.go(240);
        CHECK.due("sick, unknown, bad", x.sick(4, 0), HiringFairs.UNKNOWN);
        CHECK.due("sick, below", x.sick(-1, 1), HiringFairs.UNKNOWN);
        CHECK.due("sick, bad", x.sick(0, 0), HiringFairs.BAD);
        CHECK.due("sick, bad above", x.sick(0, 364), HiringFairs.BAD);
        CHECK.due("sick, not bound, bad", x.sick(3, 364), HiringFairs.BAD);
        CHECK.due("sick, not bound", x.sick(3, 1), HiringFairs.STATE);
        CHECK.due("sick(0, 5)", x.sick(0, 5), 5);
        x.days(3);
        CHECK.due("sick(0, 5) from day 3: days 0 .. 7", x.sick(0, 5), 8);
        CHECK.due("sick(0, 2), all sick already", x.sick(0, 2), 8);
        x.days(7);
        CHECK.due("sick(0, 1) on day 10", x.sick(0, 1), 9);
        CHECK.due("another is well", x.sick(1, 1), 1);
        int[][] halves = {{0, 1}, {7, 8}, {8, 10}, {9, 12}, {10, 13}, {11, 15}, {363, 719}};
        for (int[] h : halves) {
            CHECK.due("due(0, " + h[0] + ")", x.due(0, h[0]), 348 * h[1] / 728);
        }
    }

    private static void sicknessAtTheEdges() {
        HiringFairs x = inYear();
        CHECK.due("sick(0, 363) on day 0", x.sick(0, 363), 363);
        CHECK.due("363 halves and a whole", x.due(0, 363), 348 * 365 / 728);
        x.days(1);
        CHECK.due("sick(0, 363) on day 1", x.sick(0, 363), 364);
        CHECK.due("all halves", x.due(0, 363), 174);
        x.days(99);
        CHECK.due("none behind 363 counts", x.sick(1, 363), 264);
        CHECK.due("100 wholes, 264 halves", x.due(1, 363), 348 * 464 / 728);
        x.days(263);
        CHECK.due("sick on the last day", x.sick(2, 363), 1);
        CHECK.due("all wholes but one", x.due(2, 363), 336 * 727 / 728);
        HiringFairs y = inYear();
        y.warn(0);
        CHECK.due("sick days behind the end are sick days", y.sick(0, 100), 100);
        CHECK.due("but not served ones", y.due(0, 363), 348 * 28 / 728);
        y.days(27);
        CHECK.due("sick on the end", y.sick(0, 1), 100);
        y.days(1);
        CHECK.due("sick behind the end", y.sick(0, 1), HiringFairs.STATE);
    }

    private static void warnings() {
        HiringFairs x = fairOfFour();
        CHECK.due("warn ahead of the year", x.warn(0), HiringFairs.STATE);
        x.go(240);
        CHECK.due("warn, unknown", x.warn(4), HiringFairs.UNKNOWN);
        CHECK.due("warn, below", x.warn(-1), HiringFairs.UNKNOWN);
        CHECK.due("warn, not bound", x.warn(3), HiringFairs.STATE);
        CHECK.due("warn on day 0", x.warn(0), 27);
        x.days(10);
        CHECK.due("warn again", x.warn(0), HiringFairs.STATE);
        CHECK.due("the end as ahead", x.about(0, 6), 27);
        CHECK.due("warn on day 10", x.warn(1), 37);
        CHECK.due("served to the end", x.due(1, 363), 348 * 38 / 364);
        CHECK.due("due to the end", x.due(1, 37), 348 * 38 / 364);
        CHECK.due("due ahead of the end", x.due(1, 36), 348 * 37 / 364);
        x.days(17);
        CHECK.due("serves on its end, warned already", x.warn(0), HiringFairs.STATE);
        CHECK.due("may run on its end", x.run(0), 26);
        x.days(11);
        CHECK.due("run behind the end", x.run(1), HiringFairs.STATE);
        CHECK.due("the end of the third", x.about(2, 6), 363);
    }

    private static void warningsAtTheEnd() {
        int[][] ends = {{335, 362}, {336, 363}, {337, 363}, {363, 363}};
        for (int[] e : ends) {
            HiringFairs x = inYear();
            x.days(e[0]);
            CHECK.due("warn on day " + e[0], x.warn(0), e[1]);
            CHECK.due("its end", x.about(0, 6), e[1]);
        }
        HiringFairs x = inYear();
        x.days(363);
        x.warn(0);
        CHECK.due("one warning, though its end is 363", x.warn(0), HiringFairs.STATE);
    }

    private static void running() {
        HiringFairs x = fairOfFour();
        CHECK.due("run ahead of the year", x.run(0), HiringFairs.STATE);
        x.go(240);
        CHECK.due("run, unknown", x.run(4), HiringFairs.UNKNOWN);
        CHECK.due("run, below", x.run(-1), HiringFairs.UNKNOWN);
        CHECK.due("run, not bound", x.run(3), HiringFairs.STATE);
        CHECK.due("run on day 0", x.run(0), -1);
        CHECK.due("its end", x.about(0, 6), -1);
        CHECK.due("run again", x.run(0), HiringFairs.STATE);
        CHECK.due("warn who ran", x.warn(0), HiringFairs.STATE);
        CHECK.due("send who ran", x.send(0), HiringFairs.STATE);
        CHECK.due("sick who ran", x.sick(0, 1), HiringFairs.STATE);
        CHECK.due("still bound", x.about(0, 3), 0);
        CHECK.due("its wage still", x.about(0, 4), 29);
        CHECK.due("its master has it still", x.house(0, 2), 0);
        CHECK.due("all bound still", x.total(2), 3);
        x.days(363);
        CHECK.due("run on the last day", x.run(1), 362);
    }

    private static void runningByTheText() {
        HiringFairs x = inYear();
        x.days(10);
        CHECK.due("run, text 0", x.run(0), 9);
        x.text(1);
        CHECK.due("run, text 1", x.run(1), 9);
        CHECK.due("text 0 then", x.due(0, 363), 0);
        CHECK.due("text 0 then, ahead of its end", x.due(0, 5), 0);
        CHECK.due("text 1 then", x.due(1, 363), 348 * 10 / 364);
        CHECK.due("text 1 then, ahead of its end", x.due(1, 4), 348 * 5 / 364);
        x.text(0);
        CHECK.due("the text of then counts, not that of now", x.due(1, 363), 348 * 10 / 364);
        CHECK.due("not due", x.owes(0, 363), 0);
        CHECK.due("due", x.owes(1, 363), 348 * 10 / 364);
        CHECK.due("who has not run has them due", x.due(2, 363), 336);
        HiringFairs y = inYear();
        y.text(1);
        y.run(0);
        CHECK.due("run on day 0, text 1", y.due(0, 363), 0);
        CHECK.due("run on day 0, text 1, to day 0", y.due(0, 0), 0);
    }

    private static void sending() {
        HiringFairs x = fairOfFour();
        CHECK.due("send ahead of the year", x.send(0), HiringFairs.STATE);
        x.go(240);
        CHECK.due("send, unknown", x.send(4), HiringFairs.UNKNOWN);
        CHECK.due("send, below", x.send(-1), HiringFairs.UNKNOWN);
        CHECK.due("send, not bound", x.send(3), HiringFairs.STATE);
        CHECK.due("send, held for less", x.send(1), HiringFairs.STATE);
        x.hear(1, 1, 9);
        CHECK.due("send, held for its skill", x.send(1), HiringFairs.STATE);
        x.hear(2, 2, 4);
        CHECK.due("send, held for its skill now", x.send(2), HiringFairs.STATE);
        x.hear(0, 2, 9);
        CHECK.due("send, held for more by another", x.send(2), HiringFairs.STATE);
        CHECK.due("who is not sent serves on", x.about(2, 6), 363);
        x.hear(2, 2, 5);
        CHECK.due("send on day 0", x.send(2), -1);
        x.days(20);
        CHECK.due("send on day 20", x.send(0), 19);
        CHECK.due("its end", x.about(0, 6), 19);
        CHECK.due("wages are due to whom it sent", x.due(0, 363), 348 * 20 / 364);
        CHECK.due("send again", x.send(0), HiringFairs.STATE);
        CHECK.due("run who was sent", x.run(0), HiringFairs.STATE);
        CHECK.due("wages as ahead", x.due(0, 363), 348 * 20 / 364);
    }

    private static void wages() {
        HiringFairs x = fairOfFour();
        CHECK.due("due ahead of the year", x.due(0, 0), HiringFairs.STATE);
        CHECK.due("due ahead of the year, bad", x.due(0, 364), HiringFairs.BAD);
        x.go(240);
        CHECK.due("due, unknown, bad", x.due(4, 364), HiringFairs.UNKNOWN);
        CHECK.due("due, below", x.due(-1, 0), HiringFairs.UNKNOWN);
        CHECK.due("due, bad", x.due(0, 364), HiringFairs.BAD);
        CHECK.due("due, bad below", x.due(0, -1), HiringFairs.BAD);
        CHECK.due("due, not bound, bad", x.due(3, -1), HiringFairs.BAD);
        CHECK.due("due, not bound", x.due(3, 0), HiringFairs.STATE);
        for (int day = 0; day <= 363; day++) {
            CHECK.due("due(0, " + day + ")", x.due(0, day), 348 * (day + 1) / 364);
        }
        CHECK.due("due(2, 363)", x.due(2, 363), 336);
        x.days(200);
        CHECK.due("due to a day gone by", x.due(0, 0), 0);
        CHECK.due("due to a day to come", x.due(0, 363), 348);
    }

    private static void owing() {
        HiringFairs x = fairOfFour();
        CHECK.due("owes ahead of the year", x.owes(0, 0), HiringFairs.STATE);
        CHECK.due("owes ahead of the year, bad", x.owes(0, 364), HiringFairs.BAD);
        x.go(240);
        CHECK.due("owes, unknown, bad", x.owes(4, 364), HiringFairs.UNKNOWN);
        CHECK.due("owes, below", x.owes(-1, 0), HiringFairs.UNKNOWN);
        CHECK.due("owes, bad", x.owes(0, 364), HiringFairs.BAD);
        CHECK.due("owes, bad below", x.owes(3, -1), HiringFairs.BAD);
        CHECK.due("owes, it has nobody", x.owes(3, 363), 0);
        CHECK.due("owes(0, 363)", x.owes(0, 363), 348);
        CHECK.due("owes(2, 363)", x.owes(2, 363), 336);
        CHECK.due("owes(2, 181)", x.owes(2, 181), 168);
        x.sick(2, 363);
        CHECK.due("owes for halves", x.owes(2, 181), 84);
    }

    private static void handsAtWork() {
        HiringFairs x = fairOfFour();
        CHECK.due("hands ahead of the year", x.hands(0, 0), HiringFairs.STATE);
        CHECK.due("hands ahead of the year, bad", x.hands(3, 0), HiringFairs.BAD);
        x.go(240);
        int[][] bad = {{-1, 0}, {3, 0}, {0, -1}, {0, 364}};
        for (int[] b : bad) {
            CHECK.due("hands, bad", x.hands(b[0], b[1]), HiringFairs.BAD);
        }
        CHECK.due("ploughs", x.hands(0, 0), 2);
        CHECK.due("ploughs, last day", x.hands(0, 363), 2);
        CHECK.due("dairy", x.hands(1, 0), 1);
        CHECK.due("house, not bound", x.hands(2, 0), 0);
        x.sick(1, 100);
        CHECK.due("sick ones too", x.hands(0, 0), 2);
        x.warn(0);
        CHECK.due("on its end", x.hands(0, 27), 2);
        CHECK.due("behind its end", x.hands(0, 28), 1);
        x.run(2);
        CHECK.due("ran on day 0", x.hands(1, 0), 0);
        x.days(50);
        x.run(1);
        CHECK.due("ahead of its running", x.hands(0, 49), 1);
        CHECK.due("on the day of its running", x.hands(0, 50), 0);
    }

    private static void totals() {
        HiringFairs x = fairOfFour();
        x.master(2, 1);
        int[] ahead = {4, 5, 0, 0, HiringFairs.NONE, 0, 0};
        int[] behind = {4, 5, 3, 240, 17, 86, 1};
        for (int what = 0; what < ahead.length; what++) {
            CHECK.due("total(" + what + ") ahead", x.total(what), ahead[what]);
        }
        x.go(240);
        x.days(17);
        x.text(1);
        for (int what = 0; what < behind.length; what++) {
            CHECK.due("total(" + what + ") behind", x.total(what), behind[what]);
        }
        CHECK.due("total, bad", x.total(7), HiringFairs.BAD);
        CHECK.due("total, bad below", x.total(-1), HiringFairs.BAD);
    }

    /** Servants 0 to 2 come to be bound to masters 0 to 2, for 29, 29 and 28; servant 3 and master 3 do not. */
    private static HiringFairs fairOfFour() {
        HiringFairs x = new HiringFairs();
        x.servant(0, 4, 10);
        x.servant(0, 9, 10);
        x.servant(1, 4, 28);
        x.servant(2, 1, 60);
        x.master(0, 60);
        x.master(0, 60);
        x.master(1, 40);
        x.master(2, 1);
        return x;
    }

    private static HiringFairs inYear() {
        HiringFairs x = fairOfFour();
        x.go(240);
        return x;
    }
}
