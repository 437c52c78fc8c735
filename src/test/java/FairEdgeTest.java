/** The edges that promises 12 to 17 name, sentence by sentence. */
public final class FairEdgeTest {
    private static final Check CHECK = new Check("FairEdgeTest");
    private static final Runs RUNS = new Runs(CHECK);

    /** Held for 5, so 48 would be given: an offer of 29. */
    private static final String ONE_PAIR = "servant(0, 5, 10); master(0, 60)";
    /** Master 0 offers the servant 19, master 1 offers it 29. */
    private static final String ONE_BETWEEN_TWO = "servant(0, 5, 10); master(0, 40); master(0, 60)";
    private static final String TEN_PAIRS = "x10 servant(0, 5, 10); x10 master(0, 60)";

    public static void main(String[] args) {
        go();
        bargains();
        bargain();
        torn();
        pair();
        foretold();
        foretoldOrders();
        CHECK.end();
    }

    private static void go() {
        RUNS.sentence("12: n MINUTES (1 .. 240): too few", "go(0) = BAD", "go(-1) = BAD", "go(MIN) = BAD", "total(3) = 0",
                "go(1) = 1");
        RUNS.sentence("12: n MINUTES (1 .. 240): too many", "go(241) = BAD", "go(MAX) = BAD", "total(3) = 0",
                "total(4) = NONE", "go(240) = 240", "total(4) = 0");
        RUNS.sentence("12: no farther than its end: just to it", "go(120) = 120", "go(120) = 240", "total(4) = 0");
        RUNS.sentence("12: no farther than its end: farther", "go(1) = 1", "go(240) = 240", "total(3) = 240", "total(4) = 0");
        RUNS.sentence("12: no farther than its end: from the last MINUTE", "go(239) = 239", "total(4) = NONE", "go(2) = 240",
                "total(3) = 240", "total(4) = 0");
        RUNS.sentence("12: how many have gone by, of all", "go(2) = 2", "go(3) = 5", "go(5) = 10", "total(3) = 10");
        RUNS.sentence("12: STATE: THE YEAR has begun", "go(240)", "go(1) = STATE", "go(240) = STATE", "days(5)",
                "go(1) = STATE", "total(3) = 240", "total(4) = 5");
        RUNS.sentence("12: BAD ahead of STATE", "go(240)", "go(0) = BAD", "go(241) = BAD");
        RUNS.sentence("12: what is BAD goes on by none", ONE_PAIR, "go(0) = BAD", "go(241) = BAD", "bargains() = 0",
                "about(0, 3) = NONE");
        RUNS.sentence("12: 240 by one are 240 at once", TEN_PAIRS, "x240 go(1)", "total(3) = 240", "total(4) = 0",
                "bargains() = 55", "total(2) = 10", "bargain(54, 0) = 9");
    }

    private static void bargains() {
        RUNS.sentence("13: none", "bargains() = 0", ONE_PAIR, "bargains() = 0");
        RUNS.sentence("13: those not taken too", "servant(0, 5, 10); x10 master(0, 60)", "go(1)", "bargains() = 10",
                "go(239)", "bargains() = 10");
        RUNS.sentence("13: in THE YEAR as ahead of it", ONE_BETWEEN_TWO, "go(240)", "bargains() = 2", "days(363)",
                "bargains() = 2");
    }

    private static void bargain() {
        RUNS.sentence("14: 0 not taken", "servant(0, 5, 10); x2 master(0, 60)", "go(1)", "bargain(1, 0) = 0",
                "bargain(1, 1) = 1", "bargain(1, 2) = 0", "bargain(1, 3) = 29", "bargain(1, 4) = 0", "bargain(1, 5) = NONE");
        RUNS.sentence("14: 1 taken", ONE_PAIR, "go(1)", "bargain(0, 0) = 0", "bargain(0, 1) = 0", "bargain(0, 2) = 0",
                "bargain(0, 3) = 29", "bargain(0, 4) = 1", "bargain(0, 5) = NONE");
        RUNS.sentence("14: 2 taken, the SHILLING of another MASTER goes back", ONE_BETWEEN_TWO, "go(1)",
                "bargain(0, 4) = 1", "bargain(0, 5) = NONE", "bargain(1, 4) = 2", "bargain(1, 5) = 0");
        RUNS.sentence("14: UNKNOWN: there is none", ONE_PAIR, "bargain(0, 0) = UNKNOWN", "go(1)", "bargain(0, 0) = 0",
                "bargain(1, 0) = UNKNOWN", "bargain(-1, 0) = UNKNOWN", "bargain(MAX, 0) = UNKNOWN",
                "bargain(MIN, 0) = UNKNOWN", "bargain(99, 5) = UNKNOWN", "bargain(100, 0) = UNKNOWN");
        RUNS.sentence("14: UNKNOWN: an index that wraps around", ONE_PAIR, "go(1)", "bargain(715827883, 0) = UNKNOWN",
                "bargain(1431655766, 0) = UNKNOWN", "bargain(-715827882, 0) = UNKNOWN", "bargain(1073741824, 0) = UNKNOWN");
        RUNS.sentence("14: BAD", ONE_BETWEEN_TWO, "go(1)", "bargain(0, 6) = BAD", "bargain(0, -1) = BAD", "bargain(1, -1) = BAD",
                "bargain(1, -6) = BAD", "bargain(0, MAX) = BAD", "bargain(0, MIN) = BAD");
        RUNS.sentence("14: UNKNOWN ahead of BAD", ONE_PAIR, "bargain(0, 6) = UNKNOWN", "go(1)", "bargain(1, 6) = UNKNOWN",
                "bargain(-1, -1) = UNKNOWN");
        RUNS.sentence("14: its OFFER is that of then", ONE_PAIR, "go(1); hear(0, 0, 9)", "offer(0, 0) = 35",
                "bargain(0, 3) = 29", "bar(0, 0, true)", "bargain(0, 3) = 29");
        RUNS.sentence("14: the last of many", TEN_PAIRS, "go(240)", "bargain(54, 0) = 9", "bargain(54, 1) = 9",
                "bargain(54, 2) = 9", "bargain(54, 3) = 29", "bargain(54, 4) = 1", "bargain(54, 5) = NONE",
                "bargain(55, 0) = UNKNOWN");
    }

    private static void torn() {
        RUNS.sentence("15: none", "torn() = 0", "servant(0, 5, 10)", "torn() = 0", "master(1, 60)", "torn() = 0");
        RUNS.sentence("15: all that there can be", TEN_PAIRS, "torn() = 100", "go(240)", "torn() = 0");
        RUNS.sentence("15: in THE YEAR too, by what is HELD now", ONE_BETWEEN_TWO, "go(240)", "torn() = 0", "days(363)",
                "hear(0, 0, 9)", "torn() = 0", "bar(0, 1, true)", "torn() = 0", "hear(1, 0, 1)", "torn() = 0");
        RUNS.sentence("15: noon tears a PAIR", ONE_BETWEEN_TWO, "bar(0, 1, true); go(120); bar(0, 1, false); go(240)",
                "torn() = 1", "pair(0) = 1");
    }

    private static void pair() {
        RUNS.sentence("16: by SERVANTS, then MASTERS", "x2 servant(0, 5, 10); x2 master(0, 60)", "pair(0) = 0",
                "pair(1) = 1", "pair(2) = 10", "pair(3) = 11");
        RUNS.sentence("16: NONE: behind the last", "x2 servant(0, 5, 10); x2 master(0, 60)", "pair(4) = NONE",
                "pair(MAX) = NONE");
        RUNS.sentence("16: NONE: below the first", ONE_PAIR, "pair(-1) = NONE", "pair(MIN) = NONE", "pair(0) = 0");
        RUNS.sentence("16: NONE: there is none", "pair(0) = NONE", ONE_PAIR, "go(1)", "pair(0) = NONE");
        RUNS.sentence("16: 10 times the SERVANT, and the MASTER: the last of all", TEN_PAIRS, "pair(9) = 9", "pair(10) = 10",
                "pair(99) = 99", "pair(100) = NONE");
        RUNS.sentence("16: i counts those TORN alone", "x3 servant(0, 5, 10); master(1, 60); master(0, 60); bar(1, 1, true)",
                "pair(0) = 1", "pair(1) = 21", "pair(2) = NONE");
    }

    private static void foretold() {
        RUNS.sentence("17: nobody", "foretold(0, 0) = 0", "foretold(0, 1) = 0", "foretold(0, 2) = 0", "foretold(1, 0) = 0",
                "foretold(1, 1) = 0", "foretold(1, 2) = 0");
        RUNS.sentence("17: BAD: how", ONE_PAIR, "foretold(2, 0) = BAD", "foretold(-1, 0) = BAD", "foretold(MAX, 0) = BAD",
                "foretold(MIN, 2) = BAD");
        RUNS.sentence("17: BAD: what", ONE_PAIR, "foretold(0, 3) = BAD", "foretold(1, 3) = BAD", "foretold(0, -1) = BAD",
                "foretold(1, MAX) = BAD", "foretold(0, MIN) = BAD", "foretold(2, 3) = BAD");
        RUNS.sentence("17: (Nothing changes.)", ONE_BETWEEN_TWO, "foretold(0, 0) = 1", "foretold(1, 0) = 1", "total(3) = 0",
                "total(2) = 0", "bargains() = 0", "next(0) = 0", "house(1, 3) = 0", "about(0, 3) = NONE", "torn() = 2",
                "go(1)", "foretold(1, 2) = 29", "bargains() = 2", "bargain(1, 4) = 2", "house(0, 3) = 1", "total(3) = 1");
        RUNS.sentence("17: a whole FAIR, from MINUTE 0 on: though this one is behind noon", ONE_BETWEEN_TWO,
                "bar(0, 1, true); go(200); bar(0, 1, false)", "foretold(0, 2) = 29", "foretold(0, 1) = 0", "go(40)",
                "about(0, 4) = 19", "foretold(0, 2) = 29", "days(363)", "foretold(0, 2) = 29", "foretold(0, 0) = 1");
        RUNS.sentence("17: though all have been ASKED", "servant(0, 5, 10); x2 master(0, 60)", "go(240)", "hear(1, 0, 9)",
                "foretold(0, 0) = 1", "foretold(0, 2) = 35", "foretold(1, 2) = 35");
        RUNS.sentence("17: by what is HELD, BARRED now", ONE_PAIR, "go(1)", "hear(0, 0, 9)", "foretold(0, 2) = 35",
                "bar(0, 0, true)", "foretold(0, 0) = 0", "foretold(0, 2) = 0", "about(0, 4) = 29", "bar(0, 0, false)",
                "foretold(0, 0) = 1");
        RUNS.sentence("17: who is there now", ONE_PAIR, "foretold(0, 0) = 1", "servant(0, 5, 10); master(0, 60)",
                "foretold(0, 0) = 2", "foretold(0, 2) = 58");
        RUNS.sentence("17: full", TEN_PAIRS, "foretold(0, 0) = 10", "foretold(0, 1) = 0", "foretold(0, 2) = 290",
                "foretold(1, 0) = 10", "foretold(1, 1) = 0", "foretold(1, 2) = 290");
    }

    private static void foretoldOrders() {
        RUNS.sentence("17: MASTERS ASKING by number (how = 0), or from the last number on (1)",
                "x2 servant(0, 5, 10); x2 master(0, 60); bar(1, 1, true)", "foretold(0, 0) = 1", "foretold(1, 0) = 2",
                "foretold(0, 2) = 29", "foretold(1, 2) = 58");
        RUNS.sentence("17: the turns of each MINUTE from the last number on",
                "x2 servant(0, 5, 10); x2 master(0, 60); bar(1, 0, true)", "foretold(0, 0) = 2", "foretold(1, 0) = 1");
        // A whole fair is through ahead of noon, and tears nobody: whom a master would rather have it has asked,
        // and who has left it or refused it has a wage as high since. Only what changes on the way tears.
        RUNS.sentence("17: PAIRS TORN at its end (1), not those TORN now",
                "x2 servant(0, 5, 10); x3 master(0, 60)", "torn() = 6", "foretold(0, 1) = 0", "foretold(1, 1) = 0",
                "go(1); hear(2, 0, 9)", "torn() = 3", "foretold(0, 1) = 0", "foretold(1, 1) = 0");
        RUNS.sentence("17: how = 1 is for what is foretold alone", "servant(0, 5, 10); x2 master(0, 60)",
                "foretold(1, 0) = 1", "go(1)", "about(0, 3) = 0", "bargain(0, 1) = 0");
    }
}
