import java.util.ArrayList;
import java.util.Comparator;
import java.util.HashMap;
import java.util.HashSet;
import java.util.List;
import java.util.Map;
import java.util.Set;
import java.util.TreeSet;

/**
 * The document told a second time, as plainly as can be and without the class's short cuts:
 * every minute is played, every day is counted, and nothing is kept that can be worked out.
 */
final class Model {
    private static final int UNKNOWN = -1, BAD = -2, STATE = -3, FULL = -4, NONE = -9;

    private record Pair(int servant, int master) { }

    private record Servant(int kind, int skill, int least) { }

    private record Master(int kind, int most) { }

    private record Bond(int master, int wage, int minute) { }

    private record Bargain(int minute, int master, int servant, int offer, int outcome, int loser) { }

    /** What a fair has brought so far. */
    private static final class Doings {
        final Map<Integer, Bond> bonds = new HashMap<>();
        final List<Bargain> bargains = new ArrayList<>();

        Integer servantOf(int master) {
            for (Map.Entry<Integer, Bond> e : bonds.entrySet()) {
                if (e.getValue().master() == master) {
                    return e.getKey();
                }
            }
            return null;
        }

        boolean asked(int master, int servant) {
            return bargains.stream().anyMatch(b -> b.master() == master && b.servant() == servant);
        }
    }

    private final List<Servant> servants = new ArrayList<>();
    private final List<Master> masters = new ArrayList<>();
    private final Set<Pair> bars = new HashSet<>();
    private final Map<Pair, Integer> heard = new HashMap<>();
    private final Doings doings = new Doings();
    private int minutes = 0;
    private int day = 0;
    private int text = 0;
    private final Map<Integer, Integer> ends = new HashMap<>();
    private final Set<Integer> warned = new HashSet<>();
    private final Set<Integer> ranAtText0 = new HashSet<>();
    private final Map<Integer, Set<Integer>> sickDays = new HashMap<>();

    private boolean year() {
        return minutes == 240;
    }

    private boolean noServant(int s) {
        return s < 0 || s >= servants.size();
    }

    private boolean noMaster(int m) {
        return m < 0 || m >= masters.size();
    }

    int servant(int kind, int skill, int least) {
        if (kind < 0 || kind > 2 || skill < 1 || skill > 9 || least < 1 || least > 60) return BAD;
        if (year()) return STATE;
        if (servants.size() == 10) return FULL;
        servants.add(new Servant(kind, skill, least));
        return servants.size() - 1;
    }

    int master(int kind, int most) {
        if (kind < 0 || kind > 2 || most < 1 || most > 90) return BAD;
        if (year()) return STATE;
        if (masters.size() == 10) return FULL;
        masters.add(new Master(kind, most));
        return masters.size() - 1;
    }

    int bar(int servant, int master, boolean is) {
        if (noServant(servant) || noMaster(master)) return UNKNOWN;
        Pair p = new Pair(servant, master);
        boolean was = bars.contains(p);
        if (is) bars.add(p);
        else bars.remove(p);
        return was ? 1 : 0;
    }

    int hear(int master, int servant, int told) {
        if (noMaster(master) || noServant(servant)) return UNKNOWN;
        if (told < 1 || told > 9) return BAD;
        Integer before = heard.put(new Pair(servant, master), told);
        return before == null ? 5 : before;
    }

    int pass(int from, int to, int servant) {
        if (noMaster(from) || noMaster(to) || noServant(servant)) return UNKNOWN;
        Integer told = heard.get(new Pair(servant, from));
        if (told == null || from == to) return STATE;
        heard.put(new Pair(servant, to), told);
        return told;
    }

    int about(int servant, int what) {
        if (noServant(servant)) return UNKNOWN;
        if (what < 0 || what > 6) return BAD;
        Servant s = servants.get(servant);
        Bond b = doings.bonds.get(servant);
        if (what == 0) return s.kind();
        if (what == 1) return s.skill();
        if (what == 2) return s.least();
        if (b == null) return NONE;
        if (what == 3) return b.master();
        if (what == 4) return b.wage();
        if (what == 5) return b.minute();
        return year() ? end(servant) : NONE;
    }

    int house(int master, int what) {
        if (noMaster(master)) return UNKNOWN;
        if (what == 0) return masters.get(master).kind();
        if (what == 1) return masters.get(master).most();
        if (what == 2) return doings.servantOf(master) == null ? NONE : doings.servantOf(master);
        if (what == 3) return (int) doings.bargains.stream().filter(b -> b.master() == master).count();
        return BAD;
    }

    int holds(int master, int servant) {
        if (noMaster(master) || noServant(servant)) return UNKNOWN;
        return heard.getOrDefault(new Pair(servant, master), 5);
    }

    int offer(int master, int servant) {
        if (noMaster(master) || noServant(servant)) return UNKNOWN;
        Master m = masters.get(master);
        Servant s = servants.get(servant);
        int give = m.most();
        for (int number = 9; number > holds(master, servant); number--) give -= 3;
        boolean makes = m.kind() == s.kind() && !bars.contains(new Pair(servant, master)) && give >= s.least();
        return makes ? (int) Math.floor((give + s.least()) / 2.0) : NONE;
    }

    private int liking(int master, int servant) {
        return 10 * holds(master, servant) - offer(master, servant);
    }

    private int choice(int master, Doings of) {
        List<Integer> those = new ArrayList<>();
        for (int s = 0; s < servants.size(); s++) {
            if (offer(master, s) != NONE && !of.asked(master, s)) those.add(s);
        }
        those.sort(Comparator.comparingInt((Integer s) -> -liking(master, s)).thenComparingInt(s -> s));
        return those.isEmpty() ? NONE : those.get(0);
    }

    int next(int master) {
        return noMaster(master) ? UNKNOWN : choice(master, doings);
    }

    private void minute(int minute, List<Integer> order, Doings of) {
        for (int m : order) {
            if (of.servantOf(m) != null) continue;
            int s = choice(m, of);
            if (s == NONE) continue;
            int offer = offer(m, s);
            Bond b = of.bonds.get(s);
            if (b == null) {
                of.bonds.put(s, new Bond(m, offer, minute));
                of.bargains.add(new Bargain(minute, m, s, offer, 1, NONE));
            } else if (minute < 120 && offer > b.wage()) {
                of.bonds.put(s, new Bond(m, offer, minute));
                of.bargains.add(new Bargain(minute, m, s, offer, 2, b.master()));
            } else {
                of.bargains.add(new Bargain(minute, m, s, offer, 0, NONE));
            }
        }
    }

    private List<Integer> order(boolean lastFirst) {
        List<Integer> order = new ArrayList<>();
        for (int m = 0; m < masters.size(); m++) order.add(lastFirst ? 0 : order.size(), m);
        return order;
    }

    int go(int n) {
        if (n < 1 || n > 240) return BAD;
        if (year()) return STATE;
        for (int i = 0; i < n && minutes < 240; i++) minute(minutes++, order(false), doings);
        return minutes;
    }

    int bargains() {
        return doings.bargains.size();
    }

    int bargain(int i, int what) {
        if (i < 0 || i >= doings.bargains.size()) return UNKNOWN;
        if (what < 0 || what > 5) return BAD;
        Bargain b = doings.bargains.get(i);
        return new int[] {b.minute(), b.master(), b.servant(), b.offer(), b.outcome(), b.loser()}[what];
    }

    private List<Integer> tornPairs(Doings of) {
        List<Integer> pairs = new ArrayList<>();
        for (int s = 0; s < servants.size(); s++) {
            for (int m = 0; m < masters.size(); m++) {
                int offer = offer(m, s);
                if (offer == NONE) continue;
                Bond b = of.bonds.get(s);
                if (b != null && b.master() == m) continue;
                if (b != null && !(b.wage() < offer)) continue;
                Integer has = of.servantOf(m);
                if (has != null && !(10 * holds(m, has) - of.bonds.get(has).wage() < liking(m, s))) continue;
                pairs.add(10 * s + m);
            }
        }
        return pairs;
    }

    int torn() {
        return tornPairs(doings).size();
    }

    int pair(int i) {
        List<Integer> pairs = tornPairs(doings);
        return i >= 0 && i < pairs.size() ? pairs.get(i) : NONE;
    }

    int foretold(int how, int what) {
        if (how < 0 || how > 1 || what < 0 || what > 2) return BAD;
        Doings trial = new Doings();
        for (int minute = 0; minute < 240; minute++) minute(minute, order(how == 1), trial);
        if (what == 0) return trial.bonds.size();
        if (what == 1) return tornPairs(trial).size();
        return trial.bonds.values().stream().mapToInt(Bond::wage).sum();
    }

    int text(int n) {
        if (n != 0 && n != 1) return BAD;
        int before = text;
        text = n;
        return before;
    }

    int days(int n) {
        if (n < 1 || n > 363) return BAD;
        if (!year()) return STATE;
        if (day + n > 363) return FULL;
        day += n;
        return day;
    }

    private int end(int servant) {
        return ends.getOrDefault(servant, 363);
    }

    private boolean serves(int servant, int onDay) {
        return year() && doings.bonds.containsKey(servant) && onDay <= end(servant);
    }

    private Set<Integer> sickDaysOf(int servant) {
        return sickDays.computeIfAbsent(servant, s -> new TreeSet<>());
    }

    int sick(int servant, int n) {
        if (noServant(servant)) return UNKNOWN;
        if (n < 1 || n > 363) return BAD;
        if (!serves(servant, day)) return STATE;
        for (int d = day; d < day + n; d++) {
            if (d <= 363) sickDaysOf(servant).add(d);
        }
        return sickDaysOf(servant).size();
    }

    int warn(int servant) {
        if (noServant(servant)) return UNKNOWN;
        if (!serves(servant, day) || warned.contains(servant)) return STATE;
        warned.add(servant);
        ends.put(servant, day + 27 > 363 ? 363 : day + 27);
        return end(servant);
    }

    int run(int servant) {
        if (noServant(servant)) return UNKNOWN;
        if (!serves(servant, day)) return STATE;
        if (text == 0) ranAtText0.add(servant);
        ends.put(servant, day - 1);
        return end(servant);
    }

    int send(int servant) {
        if (noServant(servant)) return UNKNOWN;
        if (!serves(servant, day)) return STATE;
        if (holds(doings.bonds.get(servant).master(), servant) <= servants.get(servant).skill()) return STATE;
        ends.put(servant, day - 1);
        return end(servant);
    }

    int due(int servant, int toDay) {
        if (noServant(servant)) return UNKNOWN;
        if (toDay < 0 || toDay > 363) return BAD;
        if (!year() || !doings.bonds.containsKey(servant)) return STATE;
        if (ranAtText0.contains(servant)) return 0;
        int halves = 0;
        for (int d = 0; d <= toDay; d++) {
            if (serves(servant, d)) halves += sickDaysOf(servant).contains(d) ? 1 : 2;
        }
        return 12 * doings.bonds.get(servant).wage() * halves / 728;
    }

    int owes(int master, int toDay) {
        if (noMaster(master)) return UNKNOWN;
        if (toDay < 0 || toDay > 363) return BAD;
        if (!year()) return STATE;
        int sum = 0;
        for (Map.Entry<Integer, Bond> e : doings.bonds.entrySet()) {
            if (e.getValue().master() == master) sum += due(e.getKey(), toDay);
        }
        return sum;
    }

    int hands(int kind, int onDay) {
        if (kind < 0 || kind > 2 || onDay < 0 || onDay > 363) return BAD;
        if (!year()) return STATE;
        int count = 0;
        for (int s = 0; s < servants.size(); s++) {
            if (servants.get(s).kind() == kind && serves(s, onDay)) count++;
        }
        return count;
    }

    int total(int what) {
        if (what == 0) return servants.size();
        if (what == 1) return masters.size();
        if (what == 2) return doings.bonds.size();
        if (what == 3) return minutes;
        if (what == 4) return year() ? day : NONE;
        if (what == 5) return doings.bonds.values().stream().mapToInt(Bond::wage).sum();
        return what == 6 ? text : BAD;
    }
}
