/** The edges that the Terms name, parts 1 to 3, sentence by sentence. */
public final class TermsEdgeTest {
    private static final Check CHECK = new Check("TermsEdgeTest");
    private static final Runs RUNS = new Runs(CHECK);

    /** Held for 5, so 48 would be given: an offer of 29, a liking of 21. */
    private static final String ONE_PAIR = "servant(0, 5, 10); master(0, 60)";
    /** Master 0 offers the servant 19, master 1 offers it 29. */
    private static final String ONE_BETWEEN_TWO = "servant(0, 5, 10); master(0, 40); master(0, 60)";
    /** The highest wage that there is: 75 shillings, 900 pence. */
    private static final String HIGHEST_WAGE = "servant(0, 9, 60); master(0, 90); hear(0, 0, 9); go(240)";
    /** The lowest wage that there is: 1 shilling, 12 pence. */
    private static final String LOWEST_WAGE = "servant(0, 1, 1); master(0, 1); hear(0, 0, 9); go(240)";

    public static void main(String[] args) {
        people();
        holding();
        offering();
        liking();
        minutesAndNoon();
        asking();
        taking();
        losing();
        tornByTheServant();
        tornByTheMaster();
        yearBegins();
        endOfService();
        wagesDue();
        wagesOfRunaways();
        CHECK.end();
    }

    private static void people() {
        RUNS.sentence("(10 of each at most) servants", "x9 servant(0, 1, 1)", "servant(0, 1, 1) = 9",
                "servant(0, 1, 1) = FULL", "total(0) = 10", "about(9, 0) = 0", "about(10, 0) = UNKNOWN",
                "master(0, 1) = 0", "total(1) = 1");
        RUNS.sentence("(10 of each at most) masters", "x9 master(0, 1)", "master(0, 1) = 9",
                "master(0, 1) = FULL", "total(1) = 10", "house(9, 0) = 0", "house(10, 0) = UNKNOWN",
                "servant(0, 1, 1) = 0", "total(0) = 1");
        RUNS.sentence("A SERVANT has a KIND (0 PLOUGH, 1 DAIRY, 2 HOUSE)", "servant(-1, 5, 10) = BAD",
                "servant(3, 5, 10) = BAD", "servant(2, 5, 10) = 0", "servant(1, 5, 10) = 1", "servant(0, 5, 10) = 2",
                "about(0, 0) = 2", "about(1, 0) = 1", "about(2, 0) = 0", "total(0) = 3");
        RUNS.sentence("a SKILL (1 .. 9)", "servant(0, 0, 10) = BAD", "servant(0, 10, 10) = BAD",
                "servant(0, -1, 10) = BAD", "servant(0, 1, 10) = 0", "servant(0, 9, 10) = 1", "about(0, 1) = 1",
                "about(1, 1) = 9", "total(0) = 2");
        RUNS.sentence("a LEAST wage (1 .. 60 shillings)", "servant(0, 5, 0) = BAD", "servant(0, 5, 61) = BAD",
                "servant(0, 5, -1) = BAD", "servant(0, 5, 1) = 0", "servant(0, 5, 60) = 1", "about(0, 2) = 1",
                "about(1, 2) = 60", "total(0) = 2");
        RUNS.sentence("A MASTER wants one SERVANT of a KIND", "master(-1, 50) = BAD", "master(3, 50) = BAD",
                "master(2, 50) = 0", "master(1, 50) = 1", "master(0, 50) = 2", "house(0, 0) = 2", "house(1, 0) = 1",
                "house(2, 0) = 0", "total(1) = 3");
        RUNS.sentence("a MOST wage (1 .. 90)", "master(0, 0) = BAD", "master(0, 91) = BAD", "master(0, -1) = BAD",
                "master(0, 1) = 0", "master(0, 90) = 1", "house(0, 1) = 1", "house(1, 1) = 90", "total(1) = 2");
        RUNS.sentence("a SERVANT and a MASTER will not with one another: that pair alone",
                "x10 servant(0, 5, 10); x10 master(0, 60)", "bar(9, 0, true) = 0", "offer(0, 9) = NONE",
                "offer(9, 0) = 29", "offer(0, 8) = 29", "offer(1, 9) = 29", "offer(0, 0) = 29", "offer(9, 9) = 29",
                "bar(0, 9, true) = 0", "offer(9, 0) = NONE", "bar(9, 0, false) = 1", "offer(0, 9) = 29",
                "offer(9, 0) = NONE");
    }

    private static void holding() {
        RUNS.sentence("5 ahead of that", ONE_PAIR, "holds(0, 0) = 5", "hear(0, 0, 1) = 5", "holds(0, 0) = 1");
        RUNS.sentence("what it HEARD of it last", ONE_PAIR, "hear(0, 0, 9) = 5", "hear(0, 0, 1) = 9",
                "hear(0, 0, 9) = 1", "holds(0, 0) = 9", "hear(0, 0, 2) = 9", "holds(0, 0) = 2");
        RUNS.sentence("A MASTER HOLDS a SERVANT: each master for itself, each servant for itself",
                "x10 servant(0, 5, 10); x10 master(0, 60)", "hear(9, 0, 9) = 5", "hear(0, 9, 1) = 5",
                "hear(9, 9, 2) = 5", "holds(9, 0) = 9", "holds(0, 9) = 1", "holds(9, 9) = 2", "holds(0, 0) = 5",
                "holds(8, 0) = 5", "holds(9, 1) = 5", "holds(9, 8) = 5", "holds(8, 9) = 5");
        RUNS.sentence("it would GIVE its MOST less 3 for each by which that number is below 9",
                "servant(0, 5, 1); master(0, 89)", "hear(0, 0, 9); offer(0, 0) = 45", "hear(0, 0, 8); offer(0, 0) = 43",
                "hear(0, 0, 7); offer(0, 0) = 42", "hear(0, 0, 6); offer(0, 0) = 40", "hear(0, 0, 5); offer(0, 0) = 39",
                "hear(0, 0, 4); offer(0, 0) = 37", "hear(0, 0, 3); offer(0, 0) = 36", "hear(0, 0, 2); offer(0, 0) = 34",
                "hear(0, 0, 1); offer(0, 0) = 33");
        RUNS.sentence("what it would GIVE may be below nothing", "servant(0, 5, 1); master(0, 1)",
                "offer(0, 0) = NONE", "hear(0, 0, 1)", "offer(0, 0) = NONE", "hear(0, 0, 8)", "offer(0, 0) = NONE",
                "hear(0, 0, 9)", "offer(0, 0) = 1");
    }

    private static void offering() {
        RUNS.sentence("if it is of the KIND that it wants",
                "servant(0, 5, 10); servant(1, 5, 10); servant(2, 5, 10); master(0, 60); master(1, 60); master(2, 60)",
                "offer(0, 0) = 29", "offer(0, 1) = NONE", "offer(0, 2) = NONE", "offer(1, 0) = NONE",
                "offer(1, 1) = 29", "offer(1, 2) = NONE", "offer(2, 0) = NONE", "offer(2, 1) = NONE",
                "offer(2, 2) = 29");
        RUNS.sentence("there is no BAR", ONE_PAIR, "bar(0, 0, true)", "offer(0, 0) = NONE", "bar(0, 0, false)",
                "offer(0, 0) = 29");
        RUNS.sentence("what it would GIVE is the LEAST wage or more",
                "servant(0, 5, 48); servant(0, 5, 49); servant(0, 5, 47); master(0, 60)", "offer(0, 0) = 48",
                "offer(0, 1) = NONE", "offer(0, 2) = 47");
        RUNS.sentence("the LEAST wage or more, where the number is the least",
                "servant(0, 5, 1); master(0, 25); master(0, 24)", "hear(0, 0, 1); hear(1, 0, 1)", "offer(0, 0) = 1",
                "offer(1, 0) = NONE");
        RUNS.sentence("the middle of both, cut", "servant(0, 5, 10); servant(0, 5, 11); servant(0, 5, 12); master(0, 60)",
                "offer(0, 0) = 29", "offer(0, 1) = 29", "offer(0, 2) = 30");
        RUNS.sentence("the middle of both, at its highest", "servant(0, 5, 60); master(0, 90); hear(0, 0, 9)",
                "offer(0, 0) = 75");
    }

    private static void liking() {
        RUNS.sentence("10 times what it HOLDS it for, less the OFFER: 60 less 39 is like 50 less 29",
                "servant(0, 5, 10); servant(0, 5, 27); master(0, 60); hear(0, 1, 6)", "next(0) = 0");
        RUNS.sentence("10 times what it HOLDS it for, less the OFFER: 60 less 38 is above 50 less 29",
                "servant(0, 5, 10); servant(0, 5, 26); master(0, 60); hear(0, 1, 6)", "next(0) = 1");
        RUNS.sentence("a LIKING of nothing: 50 less 50",
                "servant(0, 5, 22); master(0, 90); offer(0, 0) = 50", "next(0) = 0", "go(1)", "about(0, 3) = 0");
        RUNS.sentence("a LIKING below nothing: 10 less 63",
                "servant(0, 5, 60); master(0, 90); hear(0, 0, 1); offer(0, 0) = 63", "next(0) = 0", "go(1)",
                "about(0, 4) = 63");
        RUNS.sentence("it is by what it HOLDS it for, not by its SKILL",
                "servant(0, 1, 10); servant(0, 9, 10); master(0, 60)", "next(0) = 0", "hear(0, 1, 6)", "next(0) = 1");
    }

    private static void minutesAndNoon() {
        RUNS.sentence("MINUTES 0 .. 239: the first", ONE_PAIR, "go(1) = 1", "bargain(0, 0) = 0", "about(0, 5) = 0");
        RUNS.sentence("MINUTES 0 .. 239: the last", "master(0, 60); go(239) = 239", "servant(0, 5, 10) = 0",
                "about(0, 3) = NONE", "go(1) = 240", "bargain(0, 0) = 239", "about(0, 5) = 239", "about(0, 6) = 363",
                "hands(0, 0) = 1");
        RUNS.sentence("noon is 120: 119 is ahead of it", ONE_BETWEEN_TWO, "bar(0, 1, true); go(119); bar(0, 1, false)",
                "go(1) = 120", "bargain(1, 0) = 119", "bargain(1, 4) = 2", "bargain(1, 5) = 0", "about(0, 3) = 1",
                "about(0, 4) = 29", "about(0, 5) = 119", "house(0, 2) = NONE", "house(1, 2) = 0");
        RUNS.sentence("noon is 120: 120 is not ahead of it", ONE_BETWEEN_TWO,
                "bar(0, 1, true); go(120); bar(0, 1, false)", "go(1) = 121", "bargain(1, 0) = 120", "bargain(1, 3) = 29",
                "bargain(1, 4) = 0", "bargain(1, 5) = NONE", "about(0, 3) = 0", "about(0, 4) = 19", "about(0, 5) = 0",
                "house(0, 2) = 0", "house(1, 2) = NONE", "house(1, 3) = 1");
        RUNS.sentence("ahead of noon and behind it in one call", ONE_BETWEEN_TWO, "bar(0, 1, true); go(118)",
                "bar(0, 1, false); servant(0, 5, 12); hear(1, 1, 9)", "go(122) = 240",
                "bargain(1, 0) = 118", "bargain(1, 1) = 1", "bargain(1, 2) = 1", "bargains() = 2", "total(4) = 0");
    }

    private static void asking() {
        RUNS.sentence("the MASTERS, by number", "servant(0, 5, 10); x3 master(0, 60)", "go(1)", "bargains() = 3",
                "bargain(0, 1) = 0", "bargain(1, 1) = 1", "bargain(2, 1) = 2", "bargain(0, 4) = 1", "bargain(1, 4) = 0",
                "bargain(2, 4) = 0", "about(0, 3) = 0");
        RUNS.sentence("that have nobody BOUND then", ONE_PAIR, "go(1); servant(0, 9, 10); hear(0, 1, 9)", "next(0) = 1",
                "go(238)", "bargains() = 1", "house(0, 3) = 1", "about(1, 3) = NONE");
        RUNS.sentence("in each MINUTE one SERVANT", "x3 servant(0, 5, 10); x2 master(0, 60)", "go(1)",
                "bargains() = 2", "bargain(1, 4) = 0", "go(1)", "bargains() = 3", "bargain(2, 2) = 1", "go(1)",
                "bargains() = 3");
        RUNS.sentence("in each MINUTE, though in one nobody took it", "x3 servant(0, 5, 10); x3 master(0, 60); go(3)",
                "servant(0, 5, 10); x2 master(0, 60); hear(3, 3, 9)", "hear(4, 3, 1); go(100) = 103", "bargains() = 11",
                "bargain(6, 0) = 3", "bargain(6, 4) = 1", "bargain(7, 4) = 0", "bargain(8, 0) = 4", "bargain(8, 4) = 0",
                "bargain(9, 0) = 5", "bargain(10, 0) = 6", "bargain(10, 2) = 3", "house(4, 3) = 4");
        RUNS.sentence("in each MINUTE, though in one all took it", ONE_BETWEEN_TWO, "bar(0, 1, true); go(1)",
                "servant(0, 5, 12); bar(0, 1, false); hear(1, 0, 9); go(100) = 101", "bargains() = 3",
                "bargain(1, 0) = 1", "bargain(1, 4) = 2", "bargain(2, 0) = 2", "bargain(2, 1) = 0", "bargain(2, 2) = 1");
        RUNS.sentence("of like ones the lesser", "x10 servant(0, 5, 10); master(0, 60)", "next(0) = 0", "bar(0, 0, true)",
                "next(0) = 1", "bar(0, 0, false)", "go(1)", "bargain(0, 2) = 0");
        RUNS.sentence("of those to whom it makes an OFFER: none",
                "servant(1, 5, 10); servant(0, 5, 60); servant(0, 5, 1); master(0, 60)",
                "bar(2, 0, true) = 0", "next(0) = NONE", "go(1) = 1", "bargains() = 0", "house(0, 3) = 0",
                "bar(2, 0, false) = 1", "go(1)", "bargains() = 1", "bargain(0, 0) = 1", "bargain(0, 2) = 2");
        RUNS.sentence("whom it has not ASKED yet", "servant(0, 5, 10); x2 master(0, 60)", "go(1)", "hear(1, 0, 9)",
                "offer(1, 0) = 35", "next(1) = NONE", "go(100)", "bargains() = 2", "house(1, 3) = 1", "about(0, 3) = 0");
        RUNS.sentence("THE FAIR with no SERVANT", "master(0, 60)", "next(0) = NONE", "go(240) = 240", "bargains() = 0",
                "torn() = 0", "house(0, 2) = NONE");
        RUNS.sentence("THE FAIR with no MASTER", "servant(0, 5, 10)", "go(240) = 240", "bargains() = 0", "torn() = 0",
                "about(0, 3) = NONE");
        RUNS.sentence("who comes while THE FAIR goes on is ASKED from then on", "master(0, 60); go(50)",
                "servant(0, 5, 10)", "go(50)", "bargain(0, 0) = 50", "servant(0, 5, 10); go(19)", "master(0, 60); go(1)",
                "bargains() = 2", "bargain(1, 0) = 119", "bargain(1, 1) = 1", "bargain(1, 2) = 0", "go(1)",
                "bargain(2, 2) = 1", "about(1, 5) = 120");
    }

    private static void taking() {
        RUNS.sentence("takes it, if it is BOUND to nobody: behind noon too", "master(0, 60); go(120); servant(0, 5, 10)",
                "go(1)", "bargain(0, 0) = 120", "bargain(0, 4) = 1", "bargain(0, 5) = NONE", "about(0, 3) = 0");
        RUNS.sentence("the OFFER is above the wage: a like one is not",
                "servant(0, 5, 10); master(0, 60); master(0, 61)", "offer(0, 0) = 29", "offer(1, 0) = 29", "go(1)",
                "bargain(1, 4) = 0", "about(0, 3) = 0");
        RUNS.sentence("the OFFER is above the wage: by one", "servant(0, 5, 10); master(0, 60); master(0, 62)",
                "offer(1, 0) = 30", "go(1)", "bargain(1, 4) = 2", "bargain(1, 5) = 0", "about(0, 3) = 1");
        RUNS.sentence("the OFFER is above the wage: a lesser one is not",
                "servant(0, 5, 10); master(0, 60); master(0, 58)", "offer(1, 0) = 28", "go(1)", "bargain(1, 4) = 0",
                "about(0, 3) = 0");
        RUNS.sentence("the wage by which it is BOUND, not what would be OFFERED now", ONE_BETWEEN_TWO,
                "bar(0, 1, true); go(1); bar(0, 1, false); hear(0, 0, 9)", "offer(0, 0) = 25", "hear(1, 0, 2)",
                "offer(1, 0) = 24", "go(1)", "bargain(1, 4) = 2", "about(0, 4) = 24");
    }

    private static void losing() {
        RUNS.sentence("the SHILLING goes back to the MASTER ahead, who has nobody BOUND then", ONE_BETWEEN_TWO, "go(1)",
                "house(0, 2) = NONE", "house(1, 2) = 0", "about(0, 3) = 1", "about(0, 4) = 29", "total(2) = 1",
                "total(5) = 29");
        RUNS.sentence("(A MASTER that loses one may ASK in that MINUTE yet, if its turn comes behind.)",
                "servant(0, 5, 10); servant(0, 5, 12); master(0, 70); master(0, 60)",
                "bar(0, 0, true); bar(1, 0, true); go(1); bar(0, 0, false); go(1)", "bargains() = 3",
                "bargain(1, 1) = 0", "bargain(1, 4) = 2", "bargain(1, 5) = 1", "bargain(2, 0) = 1", "bargain(2, 1) = 1",
                "bargain(2, 2) = 1", "bargain(2, 4) = 1");
        RUNS.sentence("its turn does not come behind", ONE_BETWEEN_TWO, "servant(0, 5, 12); go(1)", "bargains() = 2",
                "house(0, 3) = 1", "go(1)", "bargains() = 3", "bargain(2, 0) = 1", "bargain(2, 1) = 0",
                "bargain(2, 2) = 1");
        RUNS.sentence("the SHILLING goes back more than once", "servant(0, 5, 10); master(0, 60); master(0, 62)",
                "master(0, 64); go(1)", "bargain(1, 5) = 0", "bargain(2, 5) = 1", "house(0, 2) = NONE",
                "house(1, 2) = NONE", "house(2, 2) = 0", "about(0, 4) = 31");
    }

    private static void tornByTheServant() {
        RUNS.sentence("a MASTER that makes it an OFFER now", ONE_PAIR, "torn() = 1", "pair(0) = 0", "bar(0, 0, true)",
                "torn() = 0", "bar(0, 0, false)", "torn() = 1", "servant(1, 5, 10)", "torn() = 1", "servant(0, 5, 49)",
                "torn() = 1", "servant(0, 5, 48)", "torn() = 2", "pair(1) = 30");
        RUNS.sentence("not BOUND to one another", ONE_PAIR, "go(1)", "torn() = 0", "hear(0, 0, 9)", "offer(0, 0) = 35",
                "torn() = 0", "pair(0) = NONE");
        RUNS.sentence("the SERVANT is BOUND to nobody", "master(0, 60); go(240)", "torn() = 0");
        RUNS.sentence("by a wage below that OFFER", ONE_PAIR, "go(1); master(0, 60); master(0, 61)", "torn() = 0",
                "master(0, 62)", "offer(3, 0) = 30", "torn() = 1", "pair(0) = 3");
    }

    private static void tornByTheMaster() {
        RUNS.sentence("the MASTER has nobody BOUND", "servant(0, 5, 10); x2 master(0, 60)", "go(1); hear(1, 0, 1)",
                "torn() = 0", "hear(1, 0, 6)", "torn() = 1", "pair(0) = 1");
        RUNS.sentence("its LIKING for that one is below that for this one: a like one is not",
                "x2 servant(0, 5, 10); master(0, 60); go(1)", "torn() = 0");
        RUNS.sentence("its LIKING for that one is below that for this one: by one",
                "servant(0, 5, 10); servant(0, 5, 10); master(0, 60); bar(1, 0, true); go(1)", "bar(1, 0, false)",
                "torn() = 0", "servant(0, 5, 8)", "offer(0, 2) = 28", "torn() = 1", "pair(0) = 20");
        RUNS.sentence("its LIKING below nothing: 10 less 63 against 10 less 62",
                "servant(0, 5, 60); master(0, 90); hear(0, 0, 1); go(1)", "servant(0, 5, 59); hear(0, 1, 1)",
                "offer(0, 1) = 62", "torn() = 1", "pair(0) = 10", "bar(1, 0, true)", "torn() = 0");
        RUNS.sentence("what it HOLDS it for now, by the wage it pays", "x2 servant(0, 5, 10); master(0, 60); go(1)",
                "hear(0, 0, 4); hear(0, 1, 4)", "offer(0, 0) = 27", "offer(0, 1) = 27", "torn() = 1", "pair(0) = 10",
                "hear(0, 0, 5)", "torn() = 0");
        RUNS.sentence("both must rather have one another", "x2 servant(0, 5, 10); x2 master(0, 60); go(2)", "torn() = 0",
                "hear(1, 0, 9)", "torn() = 1", "pair(0) = 1", "hear(1, 1, 9)", "torn() = 0");
    }

    private static void yearBegins() {
        RUNS.sentence("THE YEAR begins behind MINUTE 239, at DAY 0", ONE_PAIR, "go(239) = 239", "total(4) = NONE",
                "about(0, 6) = NONE", "hands(0, 0) = STATE", "go(1) = 240", "total(4) = 0", "about(0, 6) = 363",
                "hands(0, 0) = 1");
        RUNS.sentence("DAYS are 0 .. 363", "go(240)", "total(4) = 0", "days(363) = 363", "days(1) = FULL",
                "total(4) = 363");
        RUNS.sentence("Who is BOUND then SERVES from DAY 0 to DAY 363", ONE_PAIR, "servant(0, 5, 60); go(240)",
                "hands(0, 0) = 1", "hands(0, 363) = 1", "warn(1) = STATE", "about(1, 6) = NONE", "due(1, 0) = STATE",
                "days(363)", "sick(0, 1) = 1");
        RUNS.sentence("Who is BOUND then: nobody", "go(240)", "total(2) = 0", "hands(0, 0) = 0", "hands(2, 363) = 0");
    }

    private static void endOfService() {
        RUNS.sentence("by a WARNING 27 DAYS behind the DAY on which it is told", ONE_PAIR, "go(240)", "warn(0) = 27",
                "hands(0, 27) = 1", "hands(0, 28) = 0", "days(27); sick(0, 1) = 1", "days(1); sick(0, 1) = STATE");
        RUNS.sentence("(no later than 363) 335", ONE_PAIR, "go(240); days(335)", "warn(0) = 362", "hands(0, 362) = 1",
                "hands(0, 363) = 0");
        RUNS.sentence("(no later than 363) 336", ONE_PAIR, "go(240); days(336)", "warn(0) = 363", "hands(0, 363) = 1");
        RUNS.sentence("(no later than 363) 337", ONE_PAIR, "go(240); days(337)", "warn(0) = 363", "about(0, 6) = 363");
        RUNS.sentence("(no later than 363) 363", ONE_PAIR, "go(240); days(363)", "warn(0) = 363", "due(0, 363) = 348");
        RUNS.sentence("if it RUNS the DAY ahead of that", ONE_PAIR, "go(240); days(1)", "run(0) = 0", "hands(0, 0) = 1",
                "hands(0, 1) = 0", "about(0, 6) = 0");
        RUNS.sentence("if it is SENT the DAY ahead of that", "servant(0, 4, 10); master(0, 60); go(240); days(1)",
                "send(0) = 0", "hands(0, 0) = 1", "hands(0, 1) = 0", "about(0, 6) = 0");
        RUNS.sentence("it RUNS, or is SENT, on DAY 0: no DAY", "x2 servant(0, 4, 10); x2 master(0, 60); go(240)",
                "hands(0, 0) = 2", "run(0) = -1", "hands(0, 0) = 1", "send(1) = -1", "hands(0, 0) = 0",
                "due(1, 363) = 0");
        RUNS.sentence("it RUNS, or is SENT, having been told a WARNING", "x2 servant(0, 4, 10); x2 master(0, 60); go(240)",
                "warn(0) = 27", "warn(1) = 27", "days(27)", "run(0) = 26", "send(1) = 26", "about(0, 6) = 26",
                "about(1, 6) = 26");
    }

    private static void wagesDue() {
        RUNS.sentence("to that one (both counted)", HIGHEST_WAGE, "due(0, 0) = 2", "due(0, 1) = 4", "due(0, 181) = 450",
                "due(0, 362) = 897", "due(0, 363) = 900");
        RUNS.sentence("by 364, cut", LOWEST_WAGE, "due(0, 0) = 0", "due(0, 29) = 0", "due(0, 30) = 1",
                "due(0, 362) = 11", "due(0, 363) = 12");
        RUNS.sentence("A DAY on which it is SICK counts half", HIGHEST_WAGE, "sick(0, 1) = 1", "due(0, 0) = 1",
                "due(0, 1) = 3", "due(0, 363) = 898");
        RUNS.sentence("halves too: an odd one is not cut ahead", LOWEST_WAGE, "sick(0, 1)", "due(0, 29) = 0",
                "due(0, 30) = 1", "sick(0, 2)", "due(0, 30) = 0", "due(0, 31) = 1");
        RUNS.sentence("every DAY a half", HIGHEST_WAGE, "sick(0, 363); days(1); sick(0, 363) = 364", "due(0, 0) = 1",
                "due(0, 363) = 450");
        RUNS.sentence("DAYS that it SERVED: none behind its END", HIGHEST_WAGE, "warn(0) = 27", "due(0, 26) = 66",
                "due(0, 27) = 69", "due(0, 28) = 69", "due(0, 363) = 69", "sick(0, 363)", "due(0, 27) = 34",
                "due(0, 28) = 34", "due(0, 363) = 34");
        RUNS.sentence("its wage is that of its SHILLING", ONE_PAIR, "go(240); hear(0, 0, 9); offer(0, 0) = 35",
                "due(0, 363) = 348", "bar(0, 0, true)", "due(0, 363) = 348");
    }

    private static void wagesOfRunaways() {
        RUNS.sentence("0, if it RAN, and the text was 0 then", ONE_PAIR, "go(240); days(100); run(0)", "due(0, 363) = 0",
                "due(0, 0) = 0", "due(0, 50) = 0", "owes(0, 363) = 0", "text(1)", "due(0, 363) = 0");
        RUNS.sentence("(1: they are due)", ONE_PAIR, "text(1); go(240); days(100); run(0) = 99", "due(0, 363) = 95",
                "due(0, 99) = 95", "due(0, 98) = 94", "owes(0, 363) = 95", "text(0) = 1", "due(0, 363) = 95");
        RUNS.sentence("who was SENT has RUN nowhere", "servant(0, 4, 10); master(0, 60); go(240); days(100)",
                "send(0) = 99", "due(0, 363) = 95");
        RUNS.sentence("who was told a WARNING has RUN nowhere", ONE_PAIR, "go(240); days(100); warn(0) = 127",
                "due(0, 363) = 122");
        RUNS.sentence("the text of another's running is nothing to it", "x2 servant(0, 5, 10); x2 master(0, 60); go(240)",
                "days(100); run(1); text(1); run(0)", "due(1, 363) = 0", "due(0, 363) = 95", "owes(1, 363) = 0",
                "owes(0, 363) = 95");
    }
}
