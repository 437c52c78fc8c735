/** The edges that promises 1 to 11 name, sentence by sentence. */
public final class PeopleEdgeTest {
    private static final Check CHECK = new Check("PeopleEdgeTest");
    private static final Runs RUNS = new Runs(CHECK);

    /** Held for 5, so 48 would be given: an offer of 29. */
    private static final String ONE_PAIR = "servant(0, 5, 10); master(0, 60)";
    private static final String TEN_PAIRS = "x10 servant(0, 5, 10); x10 master(0, 60)";

    public static void main(String[] args) {
        newObject();
        servant();
        master();
        bar();
        hear();
        pass();
        about();
        house();
        holdsAndOffer();
        next();
        CHECK.end();
    }

    private static void newObject() {
        RUNS.sentence("1: Nobody", "total(0) = 0", "total(1) = 0", "total(2) = 0", "total(5) = 0", "bargains() = 0",
                "torn() = 0", "pair(0) = NONE", "foretold(0, 0) = 0", "foretold(1, 2) = 0");
        RUNS.sentence("1: Nobody: there is no 0 either", "bar(0, 0, true) = UNKNOWN", "hear(0, 0, 5) = UNKNOWN",
                "pass(0, 0, 0) = UNKNOWN", "about(0, 0) = UNKNOWN", "house(0, 0) = UNKNOWN", "holds(0, 0) = UNKNOWN",
                "offer(0, 0) = UNKNOWN", "next(0) = UNKNOWN", "bargain(0, 0) = UNKNOWN", "sick(0, 1) = UNKNOWN",
                "warn(0) = UNKNOWN", "run(0) = UNKNOWN", "send(0) = UNKNOWN", "due(0, 0) = UNKNOWN",
                "owes(0, 0) = UNKNOWN");
        RUNS.sentence("1: MINUTE 0", "total(3) = 0", "total(4) = NONE", "go(1) = 1");
        RUNS.sentence("1: text 0", "total(6) = 0", "text(0) = 0");
        RUNS.sentence("1: an object of its own", TEN_PAIRS, "go(240); text(1)");
        RUNS.sentence("1: whatever came of another", "total(0) = 0", "total(3) = 0", "total(6) = 0", "bargains() = 0");
    }

    private static void servant() {
        RUNS.sentence("2: its number", "servant(0, 1, 1) = 0", "servant(2, 9, 60) = 1", "master(0, 5) = 0",
                "servant(1, 5, 30) = 2", "about(1, 0) = 2", "about(1, 1) = 9", "about(1, 2) = 60");
        RUNS.sentence("2: BAD", "servant(MIN, 1, 1) = BAD", "servant(MAX, 1, 1) = BAD", "servant(0, MIN, 1) = BAD",
                "servant(0, MAX, 1) = BAD", "servant(0, 1, MIN) = BAD", "servant(0, 1, MAX) = BAD", "total(0) = 0",
                "servant(0, 1, 1) = 0");
        RUNS.sentence("2: STATE: THE YEAR has begun", "go(239)", "servant(0, 1, 1) = 0", "go(1)",
                "servant(0, 1, 1) = STATE", "total(0) = 1", "days(363)", "servant(0, 1, 1) = STATE");
        RUNS.sentence("2: FULL: 10", "x9 servant(0, 1, 1)", "total(0) = 9", "servant(0, 1, 1) = 9",
                "servant(0, 1, 1) = FULL", "servant(2, 9, 60) = FULL", "total(0) = 10", "go(239)",
                "servant(0, 1, 1) = FULL");
        RUNS.sentence("2: BAD ahead of FULL", "x10 servant(0, 1, 1)", "servant(3, 1, 1) = BAD", "servant(0, 0, 1) = BAD",
                "servant(0, 1, 61) = BAD");
        RUNS.sentence("2: BAD ahead of STATE", "go(240)", "servant(3, 1, 1) = BAD", "servant(0, 10, 1) = BAD",
                "servant(0, 1, 0) = BAD");
        RUNS.sentence("2: STATE ahead of FULL", "x10 servant(0, 1, 1)", "go(240)", "servant(0, 1, 1) = STATE");
    }

    private static void master() {
        RUNS.sentence("3: its number", "master(0, 1) = 0", "master(2, 90) = 1", "servant(0, 5, 5) = 0", "master(1, 45) = 2",
                "house(1, 0) = 2", "house(1, 1) = 90");
        RUNS.sentence("3: BAD", "master(MIN, 1) = BAD", "master(MAX, 1) = BAD", "master(0, MIN) = BAD",
                "master(0, MAX) = BAD", "total(1) = 0", "master(0, 1) = 0");
        RUNS.sentence("3: STATE: THE YEAR has begun", "go(239)", "master(0, 1) = 0", "go(1)", "master(0, 1) = STATE",
                "total(1) = 1", "days(363)", "master(0, 1) = STATE");
        RUNS.sentence("3: FULL: 10", "x9 master(0, 1)", "total(1) = 9", "master(0, 1) = 9", "master(0, 1) = FULL",
                "master(2, 90) = FULL", "total(1) = 10", "go(239)", "master(0, 1) = FULL");
        RUNS.sentence("3: BAD ahead of FULL", "x10 master(0, 1)", "master(3, 1) = BAD", "master(0, 91) = BAD");
        RUNS.sentence("3: BAD ahead of STATE", "go(240)", "master(-1, 1) = BAD", "master(0, 0) = BAD");
        RUNS.sentence("3: STATE ahead of FULL", "x10 master(0, 1)", "go(240)", "master(0, 1) = STATE");
    }

    private static void bar() {
        RUNS.sentence("4: whether it was: 1, 0", ONE_PAIR, "bar(0, 0, false) = 0", "bar(0, 0, true) = 0",
                "bar(0, 0, true) = 1", "bar(0, 0, false) = 1", "bar(0, 0, false) = 0");
        RUNS.sentence("4: UNKNOWN: servant", ONE_PAIR, "bar(1, 0, true) = UNKNOWN", "bar(-1, 0, true) = UNKNOWN",
                "bar(MAX, 0, true) = UNKNOWN", "bar(MIN, 0, false) = UNKNOWN", "bar(10, 0, true) = UNKNOWN",
                "bar(32, 0, true) = UNKNOWN", "offer(0, 0) = 29", "bar(0, 0, false) = 0");
        RUNS.sentence("4: UNKNOWN: master", ONE_PAIR, "bar(0, 1, true) = UNKNOWN", "bar(0, -1, true) = UNKNOWN",
                "bar(0, MAX, true) = UNKNOWN", "bar(0, MIN, false) = UNKNOWN", "bar(0, 10, true) = UNKNOWN",
                "master(0, 60)", "bar(0, 1, false) = 0");
        RUNS.sentence("4: UNKNOWN: ten of one are none of the other", "x10 servant(0, 5, 10); master(0, 60)",
                "bar(9, 0, true) = 0", "bar(0, 9, true) = UNKNOWN", "bar(10, 0, true) = UNKNOWN");
        RUNS.sentence("4: in THE YEAR too", ONE_PAIR, "go(240)", "bar(0, 0, true) = 0", "bar(0, 0, true) = 1",
                "about(0, 3) = 0", "hands(0, 0) = 1");
    }

    private static void hear() {
        RUNS.sentence("5: for what it HELD it", ONE_PAIR, "hear(0, 0, 1) = 5", "hear(0, 0, 9) = 1", "hear(0, 0, 9) = 9");
        RUNS.sentence("5: UNKNOWN: master, servant", ONE_PAIR, "hear(1, 0, 9) = UNKNOWN", "hear(-1, 0, 9) = UNKNOWN",
                "hear(MAX, 0, 9) = UNKNOWN", "hear(MIN, 0, 9) = UNKNOWN", "hear(0, 1, 9) = UNKNOWN",
                "hear(0, -1, 9) = UNKNOWN", "hear(0, MAX, 9) = UNKNOWN", "hear(0, MIN, 9) = UNKNOWN", "holds(0, 0) = 5",
                "servant(0, 5, 10); master(0, 60)", "holds(1, 0) = 5", "holds(0, 1) = 5");
        RUNS.sentence("5: BAD: not 1 .. 9", ONE_PAIR, "hear(0, 0, 0) = BAD", "hear(0, 0, 10) = BAD", "hear(0, 0, -1) = BAD",
                "hear(0, 0, MIN) = BAD", "hear(0, 0, MAX) = BAD", "holds(0, 0) = 5", "hear(0, 0, 1) = 5",
                "hear(0, 0, 0) = BAD", "holds(0, 0) = 1");
        RUNS.sentence("5: what is BAD is not HEARD", ONE_PAIR, "master(0, 60)", "hear(0, 0, 10) = BAD",
                "pass(0, 1, 0) = STATE");
        RUNS.sentence("5: UNKNOWN ahead of BAD", ONE_PAIR, "hear(1, 0, 0) = UNKNOWN", "hear(0, 1, 10) = UNKNOWN");
        RUNS.sentence("5: in THE YEAR too", ONE_PAIR, "go(240); days(363)", "hear(0, 0, 9) = 5", "holds(0, 0) = 9");
    }

    private static void pass() {
        RUNS.sentence("6: that", ONE_PAIR, "master(0, 60)", "hear(0, 0, 9)", "pass(0, 1, 0) = 9", "holds(1, 0) = 9",
                "holds(0, 0) = 9", "hear(1, 0, 1) = 9", "pass(1, 0, 0) = 1", "holds(0, 0) = 1");
        RUNS.sentence("6: what was passed on is HEARD", ONE_PAIR, "x2 master(0, 60)", "hear(0, 0, 7)", "pass(1, 2, 0) = STATE",
                "pass(0, 1, 0) = 7", "pass(1, 2, 0) = 7", "holds(2, 0) = 7");
        RUNS.sentence("6: UNKNOWN: from, to, servant", ONE_PAIR, "hear(0, 0, 9)", "pass(1, 0, 0) = UNKNOWN",
                "pass(-1, 0, 0) = UNKNOWN", "pass(0, 1, 0) = UNKNOWN", "pass(0, -1, 0) = UNKNOWN", "pass(0, 0, 1) = UNKNOWN",
                "pass(0, 0, -1) = UNKNOWN", "pass(MAX, 0, 0) = UNKNOWN", "pass(0, MIN, 0) = UNKNOWN",
                "pass(0, 0, MAX) = UNKNOWN");
        RUNS.sentence("6: STATE: it HEARD nothing", ONE_PAIR, "master(0, 60)", "hear(1, 0, 9)", "pass(0, 1, 0) = STATE",
                "holds(1, 0) = 9", "holds(0, 0) = 5");
        RUNS.sentence("6: a 5 that it HEARD is not nothing", ONE_PAIR, "master(0, 60)", "hear(1, 0, 9); hear(0, 0, 5)",
                "pass(0, 1, 0) = 5", "holds(1, 0) = 5");
        RUNS.sentence("6: it HEARD of another SERVANT alone", ONE_PAIR, "servant(0, 5, 10); master(0, 60)", "hear(0, 0, 9)",
                "pass(0, 1, 1) = STATE", "holds(1, 1) = 5");
        RUNS.sentence("6: STATE: both are one", ONE_PAIR, "pass(0, 0, 0) = STATE", "hear(0, 0, 9)", "pass(0, 0, 0) = STATE",
                "holds(0, 0) = 9");
        RUNS.sentence("6: UNKNOWN ahead of STATE", ONE_PAIR, "pass(0, 1, 0) = UNKNOWN", "pass(0, 0, 1) = UNKNOWN",
                "pass(1, 1, 0) = UNKNOWN");
        RUNS.sentence("6: in THE YEAR too", ONE_PAIR, "master(0, 60); hear(0, 0, 9); go(240)", "pass(0, 1, 0) = 9");
    }

    private static void about() {
        RUNS.sentence("7: NONE: it is BOUND to nobody (3 to 5)", ONE_PAIR, "about(0, 3) = NONE", "about(0, 4) = NONE",
                "about(0, 5) = NONE", "go(1)", "about(0, 3) = 0", "about(0, 4) = 29", "about(0, 5) = 0");
        RUNS.sentence("7: NONE: THE YEAR has not begun (6)", ONE_PAIR, "about(0, 6) = NONE", "go(239)", "about(0, 6) = NONE",
                "go(1)", "about(0, 6) = 363");
        RUNS.sentence("7: NONE: it is not BOUND (6)", ONE_PAIR, "servant(0, 5, 10); go(240)", "about(1, 3) = NONE",
                "about(1, 6) = NONE");
        RUNS.sentence("7: 363 without one", ONE_PAIR, "go(240)", "about(0, 6) = 363", "days(363)", "about(0, 6) = 363");
        RUNS.sentence("7: the last DAY on which it SERVES or SERVED", ONE_PAIR, "go(240)", "warn(0) = 27", "about(0, 6) = 27",
                "days(28)", "about(0, 6) = 27", "days(335)", "about(0, 6) = 27");
        RUNS.sentence("7: it SERVED on no DAY", ONE_PAIR, "go(240)", "run(0) = -1", "about(0, 6) = -1");
        RUNS.sentence("7: UNKNOWN", ONE_PAIR, "about(1, 0) = UNKNOWN", "about(-1, 0) = UNKNOWN", "about(MAX, 6) = UNKNOWN",
                "about(MIN, 3) = UNKNOWN", "about(10, 0) = UNKNOWN");
        RUNS.sentence("7: BAD", ONE_PAIR, "about(0, 7) = BAD", "about(0, -1) = BAD", "about(0, MAX) = BAD",
                "about(0, MIN) = BAD");
        RUNS.sentence("7: UNKNOWN ahead of BAD", ONE_PAIR, "about(1, 7) = UNKNOWN", "about(-1, -1) = UNKNOWN");
        RUNS.sentence("7: the last of ten", TEN_PAIRS, "go(240)", "about(9, 3) = 9", "about(9, 5) = 9", "about(9, 6) = 363",
                "about(10, 3) = UNKNOWN");
    }

    private static void house() {
        RUNS.sentence("8: whom it has BOUND (2; NONE)", ONE_PAIR, "house(0, 2) = NONE", "go(1)", "house(0, 2) = 0");
        RUNS.sentence("8: how many it has ASKED (3): none", ONE_PAIR, "house(0, 3) = 0", "go(1)", "house(0, 3) = 1", "go(239)",
                "house(0, 3) = 1");
        RUNS.sentence("8: how many it has ASKED (3): all ten", TEN_PAIRS, "go(240)", "house(0, 3) = 1", "house(8, 3) = 9",
                "house(9, 3) = 10", "house(9, 2) = 9");
        RUNS.sentence("8: UNKNOWN", ONE_PAIR, "house(1, 0) = UNKNOWN", "house(-1, 0) = UNKNOWN", "house(MAX, 3) = UNKNOWN",
                "house(MIN, 2) = UNKNOWN", "house(10, 0) = UNKNOWN");
        RUNS.sentence("8: BAD", ONE_PAIR, "house(0, 4) = BAD", "house(0, -1) = BAD", "house(0, MAX) = BAD",
                "house(0, MIN) = BAD");
        RUNS.sentence("8: UNKNOWN ahead of BAD", ONE_PAIR, "house(1, 4) = UNKNOWN", "house(-1, -1) = UNKNOWN");
    }

    private static void holdsAndOffer() {
        RUNS.sentence("9: UNKNOWN: master, servant", ONE_PAIR, "holds(0, 0) = 5", "holds(1, 0) = UNKNOWN",
                "holds(-1, 0) = UNKNOWN", "holds(0, 1) = UNKNOWN", "holds(0, -1) = UNKNOWN", "holds(MAX, 0) = UNKNOWN",
                "holds(0, MIN) = UNKNOWN");
        RUNS.sentence("9: ten of one are none of the other", "x10 servant(0, 5, 10); master(0, 60)", "holds(0, 9) = 5",
                "holds(9, 0) = UNKNOWN", "holds(0, 10) = UNKNOWN");
        RUNS.sentence("10: NONE", "servant(1, 5, 10); master(0, 60)", "offer(0, 0) = NONE");
        RUNS.sentence("10: UNKNOWN: master, servant", ONE_PAIR, "offer(0, 0) = 29", "offer(1, 0) = UNKNOWN",
                "offer(-1, 0) = UNKNOWN", "offer(0, 1) = UNKNOWN", "offer(0, -1) = UNKNOWN", "offer(MIN, 0) = UNKNOWN",
                "offer(0, MAX) = UNKNOWN");
        RUNS.sentence("10: ten of one are none of the other", "servant(0, 5, 10); x10 master(0, 60)", "offer(9, 0) = 29",
                "offer(0, 9) = UNKNOWN", "offer(10, 0) = UNKNOWN");
        RUNS.sentence("10: though both are BOUND, though it was ASKED", ONE_PAIR, "go(240)", "offer(0, 0) = 29",
                "hear(0, 0, 9)", "offer(0, 0) = 35");
    }

    private static void next() {
        RUNS.sentence("11: NONE: no SERVANT", "master(0, 60)", "next(0) = NONE");
        RUNS.sentence("11: NONE: no OFFER", "servant(1, 5, 10); master(0, 60)", "next(0) = NONE");
        RUNS.sentence("11: NONE: all ASKED", ONE_PAIR, "next(0) = 0", "go(1)", "next(0) = NONE");
        RUNS.sentence("11: if it had nobody BOUND", ONE_PAIR, "servant(0, 5, 10); go(1)", "house(0, 2) = 0", "next(0) = 1",
                "go(240)", "next(0) = 1");
        RUNS.sentence("11: whom another has BOUND may be ASKED", ONE_PAIR, "go(1); master(0, 40)", "next(1) = 0");
        RUNS.sentence("11: the last of ten", TEN_PAIRS, "next(9) = 0", "hear(9, 9, 6)", "next(9) = 9");
        RUNS.sentence("11: UNKNOWN", ONE_PAIR, "next(1) = UNKNOWN", "next(-1) = UNKNOWN", "next(10) = UNKNOWN",
                "next(MAX) = UNKNOWN", "next(MIN) = UNKNOWN");
    }
}
