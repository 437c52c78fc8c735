import java.util.Arrays;
import java.util.Random;

/**
 * All promises: random runs of at most 512 calls answer as the model does, then everything that can
 * be asked is asked of both, so that what a refused call has changed would be seen.
 */
public final class ModelTest {
    private static final Check CHECK = new Check("ModelTest");
    private static final int RUNS = 400;
    private static final int CALLS = 512;
    private static int callsOfRun = 0;

    /** A call, how often it comes up in the fair and in the year, and what its arguments are. */
    private static final String[] CALL_TABLE = {
        "servant 3 1 kind skill least", "master 3 1 kind most", "bar 6 3 person person flag",
        "hear 12 6 person person told", "pass 6 3 person person person", "about 5 5 person what",
        "house 4 3 person what", "holds 2 2 person person", "offer 4 2 person person", "next 3 2 person",
        "go 5 1 minutes", "bargains 2 1", "bargain 5 3 row what", "torn 3 2", "pair 3 2 row",
        "foretold 1 1 order what", "text 1 2 order", "days 1 4 days", "sick 1 6 person days", "warn 1 3 person",
        "run 1 2 person", "send 1 3 person", "due 1 6 person day", "owes 1 4 person day", "hands 1 4 kind day",
        "total 3 3 what",
    };

    public static void main(String[] args) {
        CHECK.due("calls in the table", CALL_TABLE.length, 26);
        for (int seed = 1; seed <= RUNS && !CHECK.tooManyWrong(); seed++) {
            randomRun(seed);
        }
        CHECK.end();
    }

    private static void randomRun(int seed) {
        callsOfRun = 0;
        Random random = new Random(seed);
        HiringFairs x = new HiringFairs();
        Model model = new Model();
        boolean oneKind = random.nextBoolean();
        int people = 1 + random.nextInt(10);
        for (int i = 0; i < people; i++) {
            int kind = oneKind ? 0 : random.nextInt(3);
            same(seed, x, model, "servant", kind, 1 + random.nextInt(9), 1 + random.nextInt(40));
            same(seed, x, model, "master", kind, 20 + random.nextInt(71));
        }
        for (int call = 2 * people; call < CALLS - 120; call++) {
            // The model is asked, not the class: of that nothing is promised behind its 512th call.
            String[] row = drawRow(random, model.total(4) != HiringFairs.NONE);
            same(seed, x, model, row[0], drawArguments(random, row, people));
        }
        lookAtAll(seed, x, model);
        CHECK.holds("seed " + seed + ": 512 calls at most, of " + callsOfRun, callsOfRun <= CALLS);
    }

    private static String[] drawRow(Random random, boolean inYear) {
        int column = inYear ? 2 : 1;
        int sum = 0;
        for (String line : CALL_TABLE) {
            sum += Integer.parseInt(line.split(" ")[column]);
        }
        int drawn = random.nextInt(sum);
        for (String line : CALL_TABLE) {
            drawn -= Integer.parseInt(line.split(" ")[column]);
            if (drawn < 0) {
                return line.split(" ");
            }
        }
        throw new IllegalStateException("no row");
    }

    private static Object[] drawArguments(Random random, String[] row, int people) {
        Object[] arguments = new Object[row.length - 3];
        for (int i = 0; i < arguments.length; i++) {
            arguments[i] = row[i + 3].equals("flag") ? (Object) (random.nextInt(3) == 0) : draw(random, row[i + 3], people);
        }
        return arguments;
    }

    private static Integer draw(Random random, String sort, int people) {
        if (random.nextInt(60) == 0) {
            int[] wild = {Integer.MIN_VALUE, Integer.MAX_VALUE, -1, 0, 1000000007, 240, 241, 363, 364, 10, 64};
            return wild[random.nextInt(wild.length)];
        }
        switch (sort) {
            case "kind": return random.nextInt(20) == 0 ? 3 : random.nextInt(3);
            case "skill": return random.nextInt(11);
            case "told": return random.nextInt(20) == 0 ? 10 * random.nextInt(2) : 1 + random.nextInt(9);
            case "least": return random.nextInt(62);
            case "most": return random.nextInt(92);
            case "person": return random.nextInt(20) == 0 ? random.nextInt(12) - 1 : random.nextInt(people);
            case "what": return random.nextInt(10) == 0 ? random.nextInt(10) - 1 : random.nextInt(7);
            case "order": return random.nextInt(15) == 0 ? 2 : random.nextInt(2);
            case "row": return random.nextInt(random.nextBoolean() ? 6 : 60) - 1;
            case "minutes": return random.nextInt(4) == 0 ? random.nextInt(150) : random.nextInt(4);
            case "days": return random.nextInt(8) == 0 ? random.nextInt(365) : random.nextInt(25);
            case "day": return random.nextInt(366) - 1;
            default: throw new IllegalStateException(sort);
        }
    }

    private static void lookAtAll(int seed, HiringFairs x, Model model) {
        for (int what = 0; what <= 6; what++) {
            same(seed, x, model, "total", what);
        }
        same(seed, x, model, "torn");
        same(seed, x, model, "bargains");
        for (int i = 0; i < 10; i++) {
            int servant = i;
            for (int what = 3; what <= 6; what++) {
                same(seed, x, model, "about", servant, what);
            }
            same(seed, x, model, "due", servant, 363);
            same(seed, x, model, "house", servant, 2);
            same(seed, x, model, "house", servant, 3);
            same(seed, x, model, "holds", servant, (servant + seed) % 10);
            same(seed, x, model, "offer", servant, (servant + seed) % 10);
            same(seed, x, model, "next", servant);
        }
    }

    private static void same(int seed, HiringFairs x, Model model, String name, Object... arguments) {
        callsOfRun++;
        int got = Calls.call(x, name, arguments);
        int want = Calls.call(model, name, arguments);
        CHECK.due("seed " + seed + ": " + name + Arrays.toString(arguments), got, want);
    }
}
