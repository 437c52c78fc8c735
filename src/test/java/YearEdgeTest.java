/** The edges that promises 18 to 27 name, sentence by sentence. */
public final class YearEdgeTest {
    private static final Check CHECK = new Check("YearEdgeTest");
    private static final Runs RUNS = new Runs(CHECK);

    /** Bound for 29, so 348 pence a year; held for more than its skill. */
    private static final String ONE_PAIR = "servant(0, 4, 10); master(0, 60)";
    private static final String IN_YEAR = ONE_PAIR + "; go(240)";
    /** Servant 1 is bound to nobody, and master 1 has nobody. */
    private static final String ONE_LEFT = ONE_PAIR + "; servant(0, 4, 60); master(1, 60); go(240)";
    private static final String TEN_IN_YEAR = "x10 servant(0, 4, 10); x10 master(0, 60); go(240)";
    /** Bound for 75, so 900 pence a year. */
    private static final String HIGHEST_WAGE = "servant(0, 9, 60); master(0, 90); hear(0, 0, 9); go(240)";

    public static void main(String[] args) {
        text();
        days();
        sick();
        sickDaysOfAll();
        warn();
        run();
        send();
        due();
        owes();
        hands();
        total();
        CHECK.end();
    }

    private static void text() {
        RUNS.sentence("18: 0 or 1: what it was", "text(0) = 0", "text(1) = 0", "text(1) = 1", "text(0) = 1", "text(0) = 0");
        RUNS.sentence("18: BAD", "text(2) = BAD", "text(-1) = BAD", "text(MAX) = BAD", "text(MIN) = BAD", "total(6) = 0",
                "text(1) = 0", "text(2) = BAD", "text(-1) = BAD", "total(6) = 1");
        RUNS.sentence("18: at any time", "text(1) = 0", "go(100)", "text(0) = 1", "go(240)", "text(1) = 0", "days(363)",
                "text(0) = 1");
    }

    private static void days() {
        RUNS.sentence("19: n DAYS (1 .. 363): too few", "go(240)", "days(0) = BAD", "days(-1) = BAD", "days(MIN) = BAD",
                "total(4) = 0", "days(1) = 1");
        RUNS.sentence("19: n DAYS (1 .. 363): too many", "go(240)", "days(364) = BAD", "days(MAX) = BAD", "total(4) = 0",
                "days(363) = 363");
        RUNS.sentence("19: a sum that wraps around", "go(240); days(363)", "days(MAX) = BAD", "days(2147483285) = BAD",
                "total(4) = 363");
        RUNS.sentence("19: THE YEAR begins, at DAY 0, with the call that ends THE FAIR's last MINUTE", "go(239)",
                "days(1) = STATE", "total(4) = NONE", "go(1)", "total(4) = 0", "days(1) = 1");
        RUNS.sentence("19: STATE: THE YEAR has not begun", "days(1) = STATE", "days(363) = STATE", "total(4) = NONE");
        RUNS.sentence("19: BAD ahead of STATE", "days(0) = BAD", "days(364) = BAD");
        RUNS.sentence("19: FULL: behind DAY 363", "go(240)", "days(362) = 362", "days(2) = FULL", "days(363) = FULL",
                "total(4) = 362", "days(1) = 363", "days(1) = FULL", "days(363) = FULL", "total(4) = 363");
        RUNS.sentence("19: FULL: behind DAY 363, from DAY 1", "go(240)", "days(1) = 1", "days(363) = FULL", "total(4) = 1",
                "days(362) = 363");
        RUNS.sentence("19: BAD ahead of FULL", "go(240); days(363)", "days(0) = BAD", "days(364) = BAD");
        RUNS.sentence("19: 363 by one are 363 at once", IN_YEAR, "x363 days(1)", "total(4) = 363", "days(1) = FULL",
                "due(0, 363) = 348");
    }

    private static void sick() {
        RUNS.sentence("20: n DAYS (1 .. 363): too few", IN_YEAR, "sick(0, 0) = BAD", "sick(0, -1) = BAD", "sick(0, MIN) = BAD",
                "sick(0, 1) = 1");
        RUNS.sentence("20: n DAYS (1 .. 363): too many", IN_YEAR, "sick(0, 364) = BAD", "sick(0, MAX) = BAD",
                "sick(0, 363) = 363");
        RUNS.sentence("20: what is BAD makes nobody SICK", HIGHEST_WAGE, "sick(0, 0) = BAD", "sick(0, 364) = BAD",
                "due(0, 0) = 2", "due(0, 363) = 900");
        RUNS.sentence("20: none behind 363 counts", IN_YEAR, "days(1)", "sick(0, 363) = 363", "days(361)",
                "sick(0, 363) = 363", "days(1)", "sick(0, 2) = 363");
        RUNS.sentence("20: none behind 363 counts: on DAY 363", IN_YEAR, "days(363)", "sick(0, 363) = 1", "sick(0, 1) = 1");
        RUNS.sentence("20: none behind 363 counts: on DAY 362", IN_YEAR, "days(362)", "sick(0, 1) = 1", "sick(0, 2) = 2",
                "sick(0, 3) = 2");
        RUNS.sentence("20: none behind 363 is the next SERVANT's", TEN_IN_YEAR, "days(363)", "sick(0, 363) = 1",
                "sick(8, 363) = 1", "sick(9, 363) = 1", "sick(1, 1) = 1", "due(2, 363) = 348", "due(9, 363) = 347");
        RUNS.sentence("20: UNKNOWN", IN_YEAR, "sick(1, 1) = UNKNOWN", "sick(-1, 1) = UNKNOWN", "sick(MAX, 1) = UNKNOWN",
                "sick(MIN, 1) = UNKNOWN", "sick(10, 1) = UNKNOWN");
        RUNS.sentence("20: UNKNOWN ahead of BAD", IN_YEAR, "sick(1, 0) = UNKNOWN", "sick(-1, 364) = UNKNOWN");
        RUNS.sentence("20: UNKNOWN ahead of STATE", ONE_PAIR, "sick(1, 1) = UNKNOWN");
        RUNS.sentence("20: BAD ahead of STATE", ONE_PAIR, "sick(0, 0) = BAD", "sick(0, 364) = BAD", "go(240); run(0)",
                "sick(0, 0) = BAD");
        RUNS.sentence("20: STATE: THE YEAR has not begun", ONE_PAIR, "sick(0, 1) = STATE", "go(239)", "sick(0, 1) = STATE",
                "go(1)", "due(0, 1) = 1", "sick(0, 1) = 1");
        RUNS.sentence("20: STATE: it does not SERVE on THE DAY: it is not BOUND", ONE_LEFT, "sick(1, 1) = STATE");
        RUNS.sentence("20: STATE: it does not SERVE on THE DAY: behind its END", IN_YEAR, "warn(0) = 27", "days(27)",
                "sick(0, 1) = 1", "days(1)", "sick(0, 1) = STATE", "due(0, 363) = 26");
        RUNS.sentence("20: STATE: it does not SERVE on THE DAY: it RAN", IN_YEAR, "days(9)", "run(0) = 8", "sick(0, 1) = STATE");
        RUNS.sentence("20: STATE: it does not SERVE on THE DAY: it was SENT", IN_YEAR, "days(9)", "send(0) = 8",
                "sick(0, 1) = STATE");
    }

    private static void sickDaysOfAll() {
        RUNS.sentence("20: from THE DAY on", HIGHEST_WAGE, "days(2)", "sick(0, 1) = 1", "due(0, 1) = 4", "due(0, 2) = 6",
                "due(0, 3) = 8");
        RUNS.sentence("20: how many DAYS of all: a DAY told twice is one", IN_YEAR, "sick(0, 10) = 10", "sick(0, 5) = 10",
                "sick(0, 11) = 11", "days(5)", "sick(0, 6) = 11", "sick(0, 7) = 12", "days(20)", "sick(0, 1) = 13");
        RUNS.sentence("20: over many DAYS at once", HIGHEST_WAGE, "days(60)", "sick(0, 10) = 10", "due(0, 59) = 148",
                "due(0, 63) = 153", "due(0, 64) = 154", "due(0, 69) = 160", "due(0, 70) = 163", "days(67)",
                "sick(0, 2) = 12", "days(64)", "sick(0, 2) = 14", "days(64)", "sick(0, 2) = 16", "days(64)",
                "sick(0, 2) = 18", "days(44)", "sick(0, 2) = 19", "due(0, 363) = 876");
        RUNS.sentence("20: DAYS behind its END are SICK, but not SERVED", HIGHEST_WAGE, "warn(0) = 27", "sick(0, 100) = 100",
                "due(0, 363) = 34", "due(0, 27) = 34");
        RUNS.sentence("20: each SERVANT for itself", TEN_IN_YEAR, "sick(0, 363) = 363", "sick(9, 1) = 1", "due(1, 363) = 348",
                "due(8, 363) = 348", "sick(1, 2) = 2");
    }

    private static void warn() {
        RUNS.sentence("21: UNKNOWN", IN_YEAR, "warn(1) = UNKNOWN", "warn(-1) = UNKNOWN", "warn(MAX) = UNKNOWN",
                "warn(MIN) = UNKNOWN");
        RUNS.sentence("21: UNKNOWN ahead of STATE", ONE_PAIR, "warn(1) = UNKNOWN");
        RUNS.sentence("21: STATE: as sick(): THE YEAR has not begun", ONE_PAIR, "go(239)", "warn(0) = STATE", "go(1)",
                "about(0, 6) = 363", "warn(0) = 27");
        RUNS.sentence("21: STATE: as sick(): it is not BOUND", ONE_LEFT, "warn(1) = STATE", "about(1, 6) = NONE");
        RUNS.sentence("21: STATE: as sick(): it RAN", IN_YEAR, "days(5); run(0)", "warn(0) = STATE", "about(0, 6) = 4");
        RUNS.sentence("21: STATE: as sick(): it was SENT", IN_YEAR, "days(5); send(0)", "warn(0) = STATE", "about(0, 6) = 4");
        RUNS.sentence("21: STATE: there was one", IN_YEAR, "warn(0) = 27", "warn(0) = STATE", "days(1)", "warn(0) = STATE",
                "about(0, 6) = 27", "days(26)", "warn(0) = STATE", "days(1)", "warn(0) = STATE", "about(0, 6) = 27");
        RUNS.sentence("21: STATE: there was one, though its END is 363", IN_YEAR, "days(350)", "warn(0) = 363",
                "warn(0) = STATE", "days(13)", "warn(0) = STATE");
        RUNS.sentence("21: SICK ones too", IN_YEAR, "sick(0, 363)", "warn(0) = 27");
        RUNS.sentence("21: each SERVANT for itself", TEN_IN_YEAR, "warn(0) = 27", "warn(9) = 27", "about(1, 6) = 363",
                "about(8, 6) = 363", "days(1)", "warn(1) = 28");
    }

    private static void run() {
        RUNS.sentence("22: its END (-1: on DAY 0)", IN_YEAR, "run(0) = -1", "about(0, 6) = -1", "hands(0, 0) = 0");
        RUNS.sentence("22: its END: on DAY 1", IN_YEAR, "days(1)", "run(0) = 0", "hands(0, 0) = 1");
        RUNS.sentence("22: its END: on DAY 363", IN_YEAR, "days(363)", "run(0) = 362", "hands(0, 362) = 1", "hands(0, 363) = 0");
        RUNS.sentence("22: UNKNOWN", IN_YEAR, "run(1) = UNKNOWN", "run(-1) = UNKNOWN", "run(MAX) = UNKNOWN", "run(MIN) = UNKNOWN",
                "run(10) = UNKNOWN", "about(0, 6) = 363");
        RUNS.sentence("22: UNKNOWN ahead of STATE", ONE_PAIR, "run(1) = UNKNOWN");
        RUNS.sentence("22: STATE: as sick(): THE YEAR has not begun", ONE_PAIR, "go(239)", "run(0) = STATE", "go(1)",
                "about(0, 6) = 363", "due(0, 363) = 348");
        RUNS.sentence("22: STATE: as sick(): it is not BOUND", ONE_LEFT, "run(1) = STATE", "about(1, 6) = NONE");
        RUNS.sentence("22: STATE: as sick(): it RAN", IN_YEAR, "text(1); days(5); run(0) = 4", "text(0); days(5)",
                "run(0) = STATE", "about(0, 6) = 4", "due(0, 363) = 4");
        RUNS.sentence("22: STATE: as sick(): it was SENT", IN_YEAR, "days(5); send(0) = 4", "run(0) = STATE", "about(0, 6) = 4",
                "due(0, 363) = 4");
        RUNS.sentence("22: STATE: as sick(): behind its END", IN_YEAR, "warn(0) = 27", "days(28)", "run(0) = STATE",
                "about(0, 6) = 27", "due(0, 363) = 26");
        RUNS.sentence("22: on its END", IN_YEAR, "warn(0) = 27", "days(27)", "run(0) = 26", "due(0, 363) = 0");
        RUNS.sentence("22: who RAN is BOUND yet", IN_YEAR, "run(0)", "about(0, 3) = 0", "about(0, 4) = 29", "house(0, 2) = 0",
                "total(2) = 1", "total(5) = 29", "due(0, 0) = 0");
    }

    private static void send() {
        RUNS.sentence("23: HELD it for more than its SKILL", "servant(0, 4, 10); master(0, 60); go(240); days(7)", "send(0) = 6");
        RUNS.sentence("23: HELD it for its SKILL", "servant(0, 5, 10); master(0, 60); go(240); days(7)", "send(0) = STATE",
                "about(0, 6) = 363");
        RUNS.sentence("23: HELD it for less than its SKILL", "servant(0, 6, 10); master(0, 60); go(240); days(7)",
                "send(0) = STATE", "about(0, 6) = 363");
        RUNS.sentence("23: HELD it (now): more now", "servant(0, 8, 10); master(0, 60); go(240); days(7)", "hear(0, 0, 8)",
                "send(0) = STATE", "hear(0, 0, 9)", "send(0) = 6");
        RUNS.sentence("23: HELD it (now): no more now", "servant(0, 4, 10); master(0, 60); go(240); days(7)", "hear(0, 0, 4)",
                "send(0) = STATE", "hear(0, 0, 1)", "send(0) = STATE", "about(0, 6) = 363");
        RUNS.sentence("23: nobody is HELD for more than a SKILL of 9", "servant(0, 9, 10); master(0, 60); hear(0, 0, 9)",
                "go(240)", "send(0) = STATE");
        RUNS.sentence("23: a SKILL of 1", "servant(0, 1, 10); master(0, 60); hear(0, 0, 1)", "go(240)", "send(0) = STATE",
                "hear(0, 0, 2)", "send(0) = -1");
        RUNS.sentence("23: its MASTER, not another", "x2 servant(0, 5, 10); x2 master(0, 60); go(240)", "hear(0, 1, 9)",
                "send(1) = STATE", "send(0) = STATE", "hear(1, 1, 9)", "send(1) = -1");
        RUNS.sentence("23: its END (-1: on DAY 0)", IN_YEAR, "send(0) = -1", "about(0, 6) = -1", "hands(0, 0) = 0",
                "due(0, 363) = 0");
        RUNS.sentence("23: its END: on DAY 363", IN_YEAR, "days(363)", "send(0) = 362", "hands(0, 362) = 1",
                "hands(0, 363) = 0", "due(0, 363) = 347");
        RUNS.sentence("23: UNKNOWN", IN_YEAR, "send(1) = UNKNOWN", "send(-1) = UNKNOWN", "send(MAX) = UNKNOWN", "send(MIN) = UNKNOWN",
                "send(10) = UNKNOWN", "about(0, 6) = 363");
        RUNS.sentence("23: UNKNOWN ahead of STATE", ONE_PAIR, "send(1) = UNKNOWN");
        RUNS.sentence("23: STATE: as sick(): THE YEAR has not begun", ONE_PAIR, "go(239)", "send(0) = STATE", "go(1)",
                "about(0, 6) = 363");
        RUNS.sentence("23: STATE: as sick(): it is not BOUND", ONE_LEFT, "send(1) = STATE", "about(1, 6) = NONE");
        RUNS.sentence("23: STATE: as sick(): behind its END", IN_YEAR, "warn(0) = 27", "days(28)", "send(0) = STATE",
                "about(0, 6) = 27");
        RUNS.sentence("23: STATE: as sick(): it RAN, or was SENT", "x2 servant(0, 4, 10); x2 master(0, 60); go(240); days(9)",
                "run(0) = 8", "send(1) = 8", "days(1)", "send(0) = STATE", "send(1) = STATE", "about(0, 6) = 8",
                "about(1, 6) = 8");
    }

    private static void due() {
        RUNS.sentence("24: a DAY (0 .. 363)", IN_YEAR, "due(0, -1) = BAD", "due(0, 364) = BAD", "due(0, MIN) = BAD",
                "due(0, MAX) = BAD", "due(0, 0) = 0", "due(0, 1) = 1", "due(0, 362) = 347", "due(0, 363) = 348");
        RUNS.sentence("24: also one to come", IN_YEAR, "due(0, 363) = 348", "days(100)", "due(0, 363) = 348",
                "due(0, 101) = 97", "due(0, 50) = 48");
        RUNS.sentence("24: UNKNOWN", IN_YEAR, "due(1, 0) = UNKNOWN", "due(-1, 0) = UNKNOWN", "due(MAX, 0) = UNKNOWN",
                "due(MIN, 0) = UNKNOWN");
        RUNS.sentence("24: UNKNOWN ahead of BAD", IN_YEAR, "due(1, 364) = UNKNOWN", "due(-1, -1) = UNKNOWN");
        RUNS.sentence("24: BAD ahead of STATE", ONE_PAIR, "due(0, 364) = BAD", "due(0, -1) = BAD");
        RUNS.sentence("24: STATE: THE YEAR has not begun", ONE_PAIR, "due(0, 0) = STATE", "go(239)", "due(0, 363) = STATE",
                "go(1)", "due(0, 363) = 348");
        RUNS.sentence("24: STATE: it is not BOUND", ONE_LEFT, "due(1, 0) = STATE", "due(1, 364) = BAD", "due(0, 363) = 348");
    }

    private static void owes() {
        RUNS.sentence("25: a DAY (0 .. 363)", IN_YEAR, "owes(0, -1) = BAD", "owes(0, 364) = BAD", "owes(0, MIN) = BAD",
                "owes(0, MAX) = BAD", "owes(0, 0) = 0", "owes(0, 1) = 1", "owes(0, 363) = 348");
        RUNS.sentence("25: UNKNOWN", IN_YEAR, "owes(1, 0) = UNKNOWN", "owes(-1, 0) = UNKNOWN", "owes(MAX, 0) = UNKNOWN",
                "owes(MIN, 0) = UNKNOWN");
        RUNS.sentence("25: UNKNOWN ahead of BAD", IN_YEAR, "owes(1, 364) = UNKNOWN", "owes(-1, -1) = UNKNOWN");
        RUNS.sentence("25: BAD ahead of STATE", ONE_PAIR, "owes(0, 364) = BAD", "owes(0, -1) = BAD");
        RUNS.sentence("25: STATE: THE YEAR has not begun", ONE_PAIR, "owes(0, 0) = STATE", "go(239)", "owes(0, 363) = STATE",
                "go(1)", "owes(0, 363) = 348");
        RUNS.sentence("25: (0: it has nobody)", ONE_LEFT, "owes(1, 0) = 0", "owes(1, 363) = 0", "owes(1, 364) = BAD");
        RUNS.sentence("25: whose SHILLING went back", "servant(0, 5, 10); master(0, 40); master(0, 60); go(240)",
                "owes(0, 363) = 0", "owes(1, 363) = 348");
        RUNS.sentence("25: by the MASTER's number, not the SERVANT's",
                "servant(0, 5, 12); servant(0, 5, 10); master(0, 60); master(0, 60); go(240)", "about(1, 3) = 0",
                "owes(0, 363) = 348", "owes(1, 363) = 360");
    }

    private static void hands() {
        RUNS.sentence("26: a KIND", IN_YEAR, "hands(-1, 0) = BAD", "hands(3, 0) = BAD", "hands(MIN, 0) = BAD",
                "hands(MAX, 0) = BAD", "hands(0, 0) = 1", "hands(1, 0) = 0", "hands(2, 0) = 0");
        RUNS.sentence("26: a DAY (0 .. 363)", IN_YEAR, "hands(0, -1) = BAD", "hands(0, 364) = BAD", "hands(0, MIN) = BAD",
                "hands(0, MAX) = BAD", "hands(0, 0) = 1", "hands(0, 363) = 1");
        RUNS.sentence("26: SICK ones too", IN_YEAR, "sick(0, 363)", "hands(0, 0) = 1", "hands(0, 362) = 1");
        RUNS.sentence("26: BAD ahead of STATE", ONE_PAIR, "hands(3, 0) = BAD", "hands(-1, 0) = BAD", "hands(0, -1) = BAD",
                "hands(0, 364) = BAD");
        RUNS.sentence("26: STATE: THE YEAR has not begun", ONE_PAIR, "hands(0, 0) = STATE", "go(239)", "hands(2, 363) = STATE",
                "go(1)", "hands(0, 363) = 1");
        RUNS.sentence("26: none", "go(240)", "hands(0, 0) = 0");
        RUNS.sentence("26: all ten", TEN_IN_YEAR, "hands(0, 0) = 10", "hands(0, 363) = 10", "warn(9) = 27", "hands(0, 28) = 9",
                "run(0) = -1", "hands(0, 0) = 9", "hands(0, 28) = 8");
        RUNS.sentence("26: of a KIND, by what the SERVANT is",
                "servant(2, 5, 10); servant(1, 5, 10); servant(2, 5, 10); x2 master(2, 60); master(1, 60); go(240)",
                "hands(0, 0) = 0", "hands(1, 0) = 1", "hands(2, 0) = 2");
    }

    private static void total() {
        RUNS.sentence("27: BAD", "total(7) = BAD", "total(-1) = BAD", "total(MAX) = BAD", "total(MIN) = BAD");
        RUNS.sentence("27: 4 THE DAY (NONE: THE YEAR has not begun)", "total(4) = NONE", "go(239)", "total(4) = NONE", "go(1)",
                "total(4) = 0", "days(363)", "total(4) = 363");
        RUNS.sentence("27: 3 MINUTES gone by", "total(3) = 0", "go(239)", "total(3) = 239", "go(1)", "total(3) = 240",
                "days(10)", "total(3) = 240");
        RUNS.sentence("27: none and all", "total(0) = 0", "total(1) = 0", "total(2) = 0", "total(5) = 0", TEN_IN_YEAR,
                "total(0) = 10", "total(1) = 10", "total(2) = 10", "total(5) = 290");
        RUNS.sentence("27: the highest wages of all", "x10 servant(0, 5, 60); x10 master(0, 90)",
                "hear(0, 0, 9); hear(1, 1, 9); hear(2, 2, 9); hear(3, 3, 9); hear(4, 4, 9)",
                "hear(5, 5, 9); hear(6, 6, 9); hear(7, 7, 9); hear(8, 8, 9); hear(9, 9, 9)", "go(240)", "total(2) = 10",
                "total(5) = 750", "foretold(0, 2) = 750", "foretold(1, 2) = 750", "owes(9, 363) = 900");
        RUNS.sentence("27: 2 those BOUND, 5 their wages: who was SENT is BOUND yet", IN_YEAR, "send(0) = -1", "total(2) = 1",
                "total(5) = 29");
    }
}
