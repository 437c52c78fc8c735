import java.util.Arrays;

/** Hiring fairs: the people, the fair of 240 minutes, and the year of service behind it. */
public final class HiringFairs {
    public static final int UNKNOWN = -1, BAD = -2, STATE = -3, FULL = -4, NONE = -9;

    private static final int CROWD = 10;
    private static final int LAST_KIND = 2;
    private static final int BEST = 9;
    private static final int HELD_UNHEARD = 5;
    private static final int HIGHEST_LEAST = 60;
    private static final int HIGHEST_MOST = 90;

    private static final int MINUTES = 240;
    private static final int NOON = 120;

    // A master asks each servant once at most, so no fair has more bargains than pairs.
    private static final int MOST_BARGAINS = CROWD * CROWD;

    private static final int NOT_TAKEN = 0;
    private static final int TAKEN = 1;
    private static final int TAKEN_FROM_ANOTHER = 2;

    private static final int LAST_DAY = 363;
    private static final int DAYS_OF_YEAR = 364;
    private static final int WARNING_DAYS = 27;
    private static final int PENCE = 12;

    private final People people;
    private final Fair fair;
    private final Fair trial;
    private final Year year;
    private int countyText;

    public HiringFairs() {
        people = new People();
        fair = new Fair(people, new Ledger(MOST_BARGAINS));
        trial = new Fair(people, new Ledger(0));
        year = new Year(fair);
        countyText = 0;
    }

    // ---- people

    public int servant(int kind, int skill, int least) {
        if (!isKind(kind) || !isWithin(skill, 1, BEST) || !isWithin(least, 1, HIGHEST_LEAST)) {
            return BAD;
        }
        if (year.hasBegun()) {
            return STATE;
        }
        return people.addServant(kind, skill, least);
    }

    public int master(int kind, int most) {
        if (!isKind(kind) || !isWithin(most, 1, HIGHEST_MOST)) {
            return BAD;
        }
        if (year.hasBegun()) {
            return STATE;
        }
        return people.addMaster(kind, most);
    }

    public int bar(int servant, int master, boolean is) {
        if (!people.hasBoth(master, servant)) {
            return UNKNOWN;
        }
        int before = people.isBarred(master, servant) ? 1 : 0;
        people.setBar(master, servant, is);
        return before;
    }

    public int hear(int master, int servant, int told) {
        if (!people.hasBoth(master, servant)) {
            return UNKNOWN;
        }
        if (!isWithin(told, 1, BEST)) {
            return BAD;
        }
        int held = people.heldFor(master, servant);
        people.tell(master, servant, told);
        return held;
    }

    public int pass(int from, int to, int servant) {
        if (!people.hasBoth(from, servant) || !people.hasMaster(to)) {
            return UNKNOWN;
        }
        if (from == to || !people.hasHeard(from, servant)) {
            return STATE;
        }
        int told = people.heldFor(from, servant);
        people.tell(to, servant, told);
        return told;
    }

    public int about(int servant, int what) {
        if (!people.hasServant(servant)) {
            return UNKNOWN;
        }
        switch (what) {
            case 0:
                return people.kind[servant];
            case 1:
                return people.skill[servant];
            case 2:
                return people.least[servant];
            case 3:
                return fair.masterOf[servant];
            case 4:
                return fair.wage[servant];
            case 5:
                return fair.shillingMinute[servant];
            case 6:
                return year.endOf(servant);
            default:
                return BAD;
        }
    }

    public int house(int master, int what) {
        if (!people.hasMaster(master)) {
            return UNKNOWN;
        }
        switch (what) {
            case 0:
                return people.wantedKind[master];
            case 1:
                return people.most[master];
            case 2:
                return fair.servantOf[master];
            case 3:
                return fair.countAsked(master);
            default:
                return BAD;
        }
    }

    public int holds(int master, int servant) {
        return people.hasBoth(master, servant) ? people.heldFor(master, servant) : UNKNOWN;
    }

    public int offer(int master, int servant) {
        return people.hasBoth(master, servant) ? people.offerTo(master, servant) : UNKNOWN;
    }

    public int next(int master) {
        return people.hasMaster(master) ? fair.choiceOf(master) : UNKNOWN;
    }

    // ---- the fair

    public int go(int n) {
        if (!isWithin(n, 1, MINUTES)) {
            return BAD;
        }
        if (year.hasBegun()) {
            return STATE;
        }
        fair.goOn(n, false);
        if (fair.minutes == MINUTES) {
            year.begin();
        }
        return fair.minutes;
    }

    public int bargains() {
        return fair.ledger.count;
    }

    public int bargain(int i, int what) {
        if (!fair.ledger.has(i)) {
            return UNKNOWN;
        }
        if (!isWithin(what, 0, Ledger.WIDTH - 1)) {
            return BAD;
        }
        return fair.ledger.read(i, what);
    }

    public int torn() {
        return fair.countTorn();
    }

    public int pair(int i) {
        return fair.findTorn(i);
    }

    public int foretold(int how, int what) {
        if (!isWithin(how, 0, 1) || !isWithin(what, 0, 2)) {
            return BAD;
        }
        trial.startAnew();
        trial.goOn(MINUTES, how == 1);
        if (what == 0) {
            return trial.countBound();
        }
        return what == 1 ? trial.countTorn() : trial.sumWages();
    }

    // ---- the year

    public int text(int n) {
        if (!isWithin(n, 0, 1)) {
            return BAD;
        }
        int before = countyText;
        countyText = n;
        return before;
    }

    public int days(int n) {
        if (!isWithin(n, 1, LAST_DAY)) {
            return BAD;
        }
        if (!year.hasBegun()) {
            return STATE;
        }
        if (year.day + n > LAST_DAY) {
            return FULL;
        }
        year.day += n;
        return year.day;
    }

    public int sick(int servant, int n) {
        if (!people.hasServant(servant)) {
            return UNKNOWN;
        }
        if (!isWithin(n, 1, LAST_DAY)) {
            return BAD;
        }
        if (!year.servesNow(servant)) {
            return STATE;
        }
        year.fallSick(servant, n);
        return year.countSick(servant, LAST_DAY);
    }

    public int warn(int servant) {
        if (!people.hasServant(servant)) {
            return UNKNOWN;
        }
        if (!year.servesNow(servant) || year.warned[servant]) {
            return STATE;
        }
        return year.giveWarning(servant);
    }

    public int run(int servant) {
        if (!people.hasServant(servant)) {
            return UNKNOWN;
        }
        if (!year.servesNow(servant)) {
            return STATE;
        }
        year.forfeited[servant] = countyText == 0;
        return year.leave(servant);
    }

    public int send(int servant) {
        if (!people.hasServant(servant)) {
            return UNKNOWN;
        }
        if (!year.servesNow(servant) || !isHeldAboveSkill(servant)) {
            return STATE;
        }
        return year.leave(servant);
    }

    public int due(int servant, int day) {
        if (!people.hasServant(servant)) {
            return UNKNOWN;
        }
        if (!isDay(day)) {
            return BAD;
        }
        if (!year.hasBegun() || !fair.isBound(servant)) {
            return STATE;
        }
        return year.wagesDue(servant, day);
    }

    public int owes(int master, int day) {
        if (!people.hasMaster(master)) {
            return UNKNOWN;
        }
        if (!isDay(day)) {
            return BAD;
        }
        if (!year.hasBegun()) {
            return STATE;
        }
        int servant = fair.servantOf[master];
        return servant == NONE ? 0 : year.wagesDue(servant, day);
    }

    public int hands(int kind, int day) {
        if (!isKind(kind) || !isDay(day)) {
            return BAD;
        }
        if (!year.hasBegun()) {
            return STATE;
        }
        int count = 0;
        for (int servant = 0; servant < people.servants; servant++) {
            if (people.kind[servant] == kind && year.servesOn(servant, day)) {
                count++;
            }
        }
        return count;
    }

    public int total(int what) {
        switch (what) {
            case 0:
                return people.servants;
            case 1:
                return people.masters;
            case 2:
                return fair.countBound();
            case 3:
                return fair.minutes;
            case 4:
                return year.day;
            case 5:
                return fair.sumWages();
            case 6:
                return countyText;
            default:
                return BAD;
        }
    }

    private boolean isHeldAboveSkill(int servant) {
        int master = fair.masterOf[servant];
        return master != NONE && people.heldFor(master, servant) > people.skill[servant];
    }

    private static boolean isWithin(int value, int low, int high) {
        return value >= low && value <= high;
    }

    private static boolean isKind(int kind) {
        return isWithin(kind, 0, LAST_KIND);
    }

    private static boolean isDay(int day) {
        return isWithin(day, 0, LAST_DAY);
    }

    /** Who is there, what each master heard of each servant, and who will not with whom. */
    private static final class People {
        int servants;
        final int[] kind;
        final int[] skill;
        final int[] least;

        int masters;
        final int[] wantedKind;
        final int[] most;

        // 0 is no number that can be told, so it stands for nothing heard.
        final int[][] heard;
        // By master, a bit a servant.
        final int[] barred;

        People() {
            kind = new int[CROWD];
            skill = new int[CROWD];
            least = new int[CROWD];
            wantedKind = new int[CROWD];
            most = new int[CROWD];
            heard = new int[CROWD][CROWD];
            barred = new int[CROWD];
        }

        int addServant(int itsKind, int itsSkill, int itsLeast) {
            if (servants >= CROWD) {
                return FULL;
            }
            kind[servants] = itsKind;
            skill[servants] = itsSkill;
            least[servants] = itsLeast;
            servants++;
            return servants - 1;
        }

        int addMaster(int itsKind, int itsMost) {
            if (masters >= CROWD) {
                return FULL;
            }
            wantedKind[masters] = itsKind;
            most[masters] = itsMost;
            masters++;
            return masters - 1;
        }

        boolean hasServant(int servant) {
            return servant >= 0 && servant < servants;
        }

        boolean hasMaster(int master) {
            return master >= 0 && master < masters;
        }

        boolean hasBoth(int master, int servant) {
            return hasMaster(master) && hasServant(servant);
        }

        boolean isBarred(int master, int servant) {
            return (barred[master] & (1 << servant)) != 0;
        }

        void setBar(int master, int servant, boolean is) {
            if (is) {
                barred[master] |= 1 << servant;
            } else {
                barred[master] &= ~(1 << servant);
            }
        }

        void tell(int master, int servant, int told) {
            heard[master][servant] = told;
        }

        boolean hasHeard(int master, int servant) {
            return heard[master][servant] != 0;
        }

        int heldFor(int master, int servant) {
            int told = heard[master][servant];
            return told == 0 ? HELD_UNHEARD : told;
        }

        int offerTo(int master, int servant) {
            if (wantedKind[master] != kind[servant] || isBarred(master, servant)) {
                return NONE;
            }
            int give = most[master] - 3 * (BEST - heldFor(master, servant));
            return give < least[servant] ? NONE : (give + least[servant]) / 2;
        }

        int likingAt(int master, int servant, int wage) {
            return 10 * heldFor(master, servant) - wage;
        }
    }

    /** Every time that a master asked a servant; rows behind its room are left out. */
    private static final class Ledger {
        static final int WIDTH = 6;

        final int room;
        final int[] rows;
        int count;

        Ledger(int room) {
            this.room = Math.max(room, 0);
            rows = new int[this.room * WIDTH];
        }

        void write(int minute, int master, int servant, int offer, int outcome, int loser) {
            if (count >= room) {
                return;
            }
            int start = count * WIDTH;
            rows[start] = minute;
            rows[start + 1] = master;
            rows[start + 2] = servant;
            rows[start + 3] = offer;
            rows[start + 4] = outcome;
            rows[start + 5] = loser;
            count++;
        }

        boolean has(int i) {
            return i >= 0 && i < count;
        }

        int read(int i, int column) {
            return rows[i * WIDTH + column];
        }
    }

    /** Who asked whom and who is bound, in the fair itself or in one that is only foretold. */
    private static final class Fair {
        final People people;
        final Ledger ledger;
        int minutes;

        final int[] masterOf;
        final int[] wage;
        final int[] shillingMinute;
        final int[] servantOf;
        // By master, a bit a servant.
        final int[] asked;

        Fair(People people, Ledger ledger) {
            this.people = people;
            this.ledger = ledger;
            masterOf = new int[CROWD];
            wage = new int[CROWD];
            shillingMinute = new int[CROWD];
            servantOf = new int[CROWD];
            asked = new int[CROWD];
            startAnew();
        }

        void startAnew() {
            minutes = 0;
            ledger.count = 0;
            Arrays.fill(masterOf, NONE);
            Arrays.fill(wage, NONE);
            Arrays.fill(shillingMinute, NONE);
            Arrays.fill(servantOf, NONE);
            Arrays.fill(asked, 0);
        }

        void goOn(int n, boolean lastFirst) {
            int end = Math.min(minutes + n, MINUTES);
            // Once a minute goes by without asking, so do all behind it: nothing has changed.
            boolean asking = true;
            for (int minute = minutes; minute < end && asking; minute++) {
                asking = playMinute(minute, lastFirst);
            }
            minutes = end;
        }

        private boolean playMinute(int minute, boolean lastFirst) {
            boolean asking = false;
            for (int turn = 0; turn < people.masters; turn++) {
                int master = lastFirst ? people.masters - 1 - turn : turn;
                if (servantOf[master] == NONE && askBest(minute, master)) {
                    asking = true;
                }
            }
            return asking;
        }

        private boolean askBest(int minute, int master) {
            int servant = choiceOf(master);
            if (servant == NONE) {
                return false;
            }
            int offered = people.offerTo(master, servant);
            int before = masterOf[servant];
            asked[master] |= 1 << servant;
            if (!takes(minute, servant, offered)) {
                ledger.write(minute, master, servant, offered, NOT_TAKEN, NONE);
                return true;
            }
            int outcome = before == NONE ? TAKEN : TAKEN_FROM_ANOTHER;
            ledger.write(minute, master, servant, offered, outcome, before);
            bind(minute, master, servant, offered);
            return true;
        }

        int choiceOf(int master) {
            int best = NONE;
            int bestLiking = 0;
            for (int servant = 0; servant < people.servants; servant++) {
                int offered = people.offerTo(master, servant);
                if (offered == NONE || hasAsked(master, servant)) {
                    continue;
                }
                int liking = people.likingAt(master, servant, offered);
                if (best == NONE || liking > bestLiking) {
                    best = servant;
                    bestLiking = liking;
                }
            }
            return best;
        }

        private boolean takes(int minute, int servant, int offered) {
            return !isBound(servant) || minute < NOON && offered > wage[servant];
        }

        private void bind(int minute, int master, int servant, int offered) {
            int before = masterOf[servant];
            if (before != NONE) {
                servantOf[before] = NONE;
            }
            masterOf[servant] = master;
            servantOf[master] = servant;
            wage[servant] = offered;
            shillingMinute[servant] = minute;
        }

        boolean isBound(int servant) {
            return masterOf[servant] != NONE;
        }

        int countAsked(int master) {
            return Integer.bitCount(asked[master]);
        }

        private boolean hasAsked(int master, int servant) {
            return (asked[master] & (1 << servant)) != 0;
        }

        int countBound() {
            int count = 0;
            for (int servant = 0; servant < people.servants; servant++) {
                if (isBound(servant)) {
                    count++;
                }
            }
            return count;
        }

        int sumWages() {
            int sum = 0;
            for (int servant = 0; servant < people.servants; servant++) {
                if (isBound(servant)) {
                    sum += wage[servant];
                }
            }
            return sum;
        }

        int countTorn() {
            int count = 0;
            for (int servant = 0; servant < people.servants; servant++) {
                for (int master = 0; master < people.masters; master++) {
                    if (isTorn(servant, master)) {
                        count++;
                    }
                }
            }
            return count;
        }

        int findTorn(int i) {
            int ahead = 0;
            for (int servant = 0; servant < people.servants; servant++) {
                for (int master = 0; master < people.masters; master++) {
                    if (!isTorn(servant, master)) {
                        continue;
                    }
                    if (ahead == i) {
                        return 10 * servant + master;
                    }
                    ahead++;
                }
            }
            return NONE;
        }

        private boolean isTorn(int servant, int master) {
            int offered = people.offerTo(master, servant);
            if (offered == NONE || masterOf[servant] == master) {
                return false;
            }
            boolean servantWould = !isBound(servant) || wage[servant] < offered;
            return servantWould && wouldRather(master, servant, offered);
        }

        private boolean wouldRather(int master, int servant, int offered) {
            int has = servantOf[master];
            return has == NONE
                    || people.likingAt(master, has, wage[has]) < people.likingAt(master, servant, offered);
        }
    }

    /** The days of service of those whom the fair left bound. */
    private static final class Year {
        private static final int DAYS_A_WORD = 64;
        private static final int WORDS = 6;

        final Fair fair;
        int day;
        final int[] end;
        final boolean[] warned;
        final boolean[] forfeited;
        // A bit a day: a number a day for each servant would make every object far larger.
        final long[] sickDays;

        Year(Fair fair) {
            this.fair = fair;
            day = NONE;
            end = new int[CROWD];
            Arrays.fill(end, LAST_DAY);
            warned = new boolean[CROWD];
            forfeited = new boolean[CROWD];
            sickDays = new long[CROWD * WORDS];
        }

        void begin() {
            day = 0;
        }

        boolean hasBegun() {
            return day != NONE;
        }

        boolean servesOn(int servant, int onDay) {
            return fair.isBound(servant) && onDay <= end[servant];
        }

        boolean servesNow(int servant) {
            return hasBegun() && servesOn(servant, day);
        }

        int endOf(int servant) {
            return hasBegun() && fair.isBound(servant) ? end[servant] : NONE;
        }

        void fallSick(int servant, int n) {
            int last = Math.min(day + n - 1, LAST_DAY);
            for (int onDay = day; onDay <= last; onDay++) {
                sickDays[wordOf(servant, onDay)] |= dayBit(onDay);
            }
        }

        int countSick(int servant, int lastDay) {
            int count = 0;
            for (int onDay = 0; onDay <= lastDay; onDay++) {
                if ((sickDays[wordOf(servant, onDay)] & dayBit(onDay)) != 0) {
                    count++;
                }
            }
            return count;
        }

        private static int wordOf(int servant, int onDay) {
            return servant * WORDS + onDay / DAYS_A_WORD;
        }

        private static long dayBit(int onDay) {
            return 1L << (onDay % DAYS_A_WORD);
        }

        int giveWarning(int servant) {
            warned[servant] = true;
            end[servant] = Math.min(day + WARNING_DAYS, LAST_DAY);
            return end[servant];
        }

        int leave(int servant) {
            end[servant] = day - 1;
            return end[servant];
        }

        int wagesDue(int servant, int toDay) {
            if (forfeited[servant]) {
                return 0;
            }
            int last = Math.min(toDay, end[servant]);
            int halfDays = 2 * (last + 1) - countSick(servant, last);
            return PENCE * fair.wage[servant] * halfDays / (2 * DAYS_OF_YEAR);
        }
    }
}
