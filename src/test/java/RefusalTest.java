import java.util.ArrayList;
import java.util.Arrays;
import java.util.List;
import java.util.function.Consumer;

/**
 * Part 4 of the Terms, in every state that matters: every call with every mix of edge arguments
 * answers as the model does, and what is refused, or only asks, changes nothing that can be asked for.
 */
public final class RefusalTest {
    private static final Check CHECK = new Check("RefusalTest");

    private static final int[] PERSON = {Integer.MIN_VALUE, -1, 0, 1, 4, 5, 9, 10, 32, Integer.MAX_VALUE};
    private static final int[] KIND = {Integer.MIN_VALUE, -1, 0, 2, 3, Integer.MAX_VALUE};
    private static final int[] SKILL = {Integer.MIN_VALUE, 0, 1, 9, 10, Integer.MAX_VALUE};
    private static final int[] LEAST = {Integer.MIN_VALUE, 0, 1, 60, 61, Integer.MAX_VALUE};
    private static final int[] MOST = {Integer.MIN_VALUE, 0, 1, 90, 91, Integer.MAX_VALUE};
    private static final int[] FLAG = {0, 1};
    private static final int[] WHAT = {Integer.MIN_VALUE, -1, 0, 1, 2, 3, 4, 5, 6, 7, Integer.MAX_VALUE};
    private static final int[] MINUTES = {Integer.MIN_VALUE, -1, 0, 1, 2, 120, 240, 241, Integer.MAX_VALUE};
    private static final int[] ROW = {Integer.MIN_VALUE, -1, 0, 1, 2, 54, 55, 99, 100, 715827883, Integer.MAX_VALUE};
    private static final int[] DAYS = {Integer.MIN_VALUE, -1, 0, 1, 2, 27, 362, 363, 364, Integer.MAX_VALUE};

    /** A call, its arguments, and whether it only asks. */
    private record Call(String name, boolean asks, int[]... edges) { }

    private static final Call[] CALLS = {
        new Call("servant", false, KIND, SKILL, LEAST), new Call("master", false, KIND, MOST),
        new Call("bar", false, PERSON, PERSON, FLAG), new Call("hear", false, PERSON, PERSON, SKILL),
        new Call("pass", false, PERSON, PERSON, PERSON), new Call("about", true, PERSON, WHAT),
        new Call("house", true, PERSON, WHAT), new Call("holds", true, PERSON, PERSON),
        new Call("offer", true, PERSON, PERSON), new Call("next", true, PERSON), new Call("go", false, MINUTES),
        new Call("bargains", true), new Call("bargain", true, ROW, WHAT), new Call("torn", true),
        new Call("pair", true, ROW), new Call("foretold", true, WHAT, WHAT), new Call("text", false, WHAT),
        new Call("days", false, DAYS), new Call("sick", false, PERSON, DAYS), new Call("warn", false, PERSON),
        new Call("run", false, PERSON), new Call("send", false, PERSON), new Call("due", true, PERSON, DAYS),
        new Call("owes", true, PERSON, DAYS), new Call("hands", true, KIND, DAYS), new Call("total", true, WHAT),
    };

    /** How a state comes about, told to the class and to the model alike. */
    private interface Teller {
        void tell(String name, Object... arguments);
    }

    public static void main(String[] args) {
        CHECK.due("calls of the document", CALLS.length, 26);
        sweep("a new object", t -> { });
        sweep("servants alone", t -> crowd(t, 10, 0));
        sweep("five of each ahead of the fair", RefusalTest::characters);
        sweep("ten of each, noon gone by", t -> {
            crowd(t, 10, 10);
            t.tell("hear", 3, 4, 8);
            t.tell("go", 121);
        });
        sweep("five of each in the last minute", t -> {
            characters(t);
            t.tell("go", 239);
        });
        sweep("the year, day 0", t -> {
            characters(t);
            t.tell("go", 240);
        });
        sweep("the year, day 30", RefusalTest::dayThirty);
        sweep("the year, day 363", t -> {
            dayThirty(t);
            t.tell("days", 333);
        });
        CHECK.end();
    }

    private static void crowd(Teller t, int servants, int masters) {
        for (int i = 0; i < servants; i++) {
            t.tell("servant", i % 3, 1 + i % 9, 5 + 3 * i);
        }
        for (int i = 0; i < masters; i++) {
            t.tell("master", i % 3, 40 + 5 * i);
        }
    }

    /** Five of each: some heard of, some barred, one of them bound to nobody. */
    private static void characters(Teller t) {
        for (int i = 0; i < 5; i++) {
            t.tell("servant", i < 4 ? 0 : 1, i == 1 ? 9 : 4, 10 + i);
            t.tell("master", i < 4 ? 0 : 2, 60 + i);
        }
        t.tell("hear", 0, 1, 5);
        t.tell("hear", 1, 0, 9);
        t.tell("hear", 2, 4, 2);
        t.tell("pass", 1, 2, 0);
        t.tell("bar", 0, 1, true);
        t.tell("bar", 3, 4, true);
        t.tell("bar", 2, 2, true);
    }

    /** Servant 0 ran at text 1, servant 1 is warned, servant 2 was sick, servant 3 was sent, servant 4 is not bound. */
    private static void dayThirty(Teller t) {
        characters(t);
        t.tell("go", 240);
        t.tell("sick", 2, 10);
        t.tell("days", 10);
        t.tell("text", 1);
        t.tell("run", 0);
        t.tell("warn", 1);
        t.tell("days", 20);
        t.tell("send", 3);
        t.tell("sick", 1, 2);
    }

    private static void sweep(String name, Consumer<Teller> state) {
        List<Integer> before = lookAtAll(state, t -> { });
        for (Call call : CALLS) {
            int[] at = new int[call.edges().length];
            do {
                one(name, state, before, call, argumentsOf(call, at));
            } while (stepped(call, at) && !CHECK.tooManyWrong());
        }
    }

    private static void one(String name, Consumer<Teller> state, List<Integer> before, Call call, Object[] arguments) {
        HiringFairs x = classIn(state);
        Model model = new Model();
        state.accept((tellName, tellArguments) -> Calls.call(model, tellName, tellArguments));
        int got = Calls.call(x, call.name(), arguments);
        int want = Calls.call(model, call.name(), arguments);
        String told = name + ": " + call.name() + Arrays.toString(arguments);
        CHECK.due(told, got, want);
        // An end of -1 is no refusal, and so nothing is asked behind it.
        boolean left = want == -1 && (call.name().equals("run") || call.name().equals("send"))
                && (Integer) arguments[0] >= 0 && (Integer) arguments[0] < x.total(0);
        if (call.asks() || want < 0 && !left) {
            CHECK.holds(told + " changes nothing",
                    lookAtAll(state, t -> t.tell(call.name(), arguments)).equals(before));
        }
    }

    private static Object[] argumentsOf(Call call, int[] at) {
        Object[] arguments = new Object[at.length];
        for (int i = 0; i < at.length; i++) {
            int edge = call.edges()[i][at[i]];
            arguments[i] = call.edges()[i] == FLAG ? (Object) (edge == 1) : (Object) edge;
        }
        return arguments;
    }

    private static boolean stepped(Call call, int[] at) {
        for (int i = 0; i < at.length; i++) {
            at[i]++;
            if (at[i] < call.edges()[i].length) {
                return true;
            }
            at[i] = 0;
        }
        return false;
    }

    private static HiringFairs classIn(Consumer<Teller> state) {
        HiringFairs x = new HiringFairs();
        state.accept((name, arguments) -> Calls.call(x, name, arguments));
        return x;
    }

    /** All that can be asked of a state behind a call; a new object for each part, so that none is used too long. */
    private static List<Integer> lookAtAll(Consumer<Teller> state, Consumer<Teller> call) {
        List<Integer> seen = new ArrayList<>();
        Consumer<Teller> both = state.andThen(call);
        people(classIn(both), seen);
        ledger(classIn(both), seen);
        year(classIn(both), seen);
        heardAndBarred(classIn(both), seen);
        whatIsToCome(classIn(both), seen);
        return seen;
    }

    private static void people(HiringFairs x, List<Integer> seen) {
        for (int i = 0; i < 10; i++) {
            for (int what = 0; what < 7; what++) {
                seen.add(x.about(i, what));
                seen.add(x.house(i, what));
            }
            seen.add(x.next(i));
            for (int other = 0; other < 10; other++) {
                seen.add(x.holds(i, other));
                seen.add(x.offer(i, other));
            }
        }
        for (int what = 0; what < 7; what++) {
            seen.add(x.total(what));
        }
    }

    private static void ledger(HiringFairs x, List<Integer> seen) {
        int bargains = x.bargains();
        seen.add(bargains);
        for (int i = 0; i < bargains; i++) {
            for (int what = 0; what < 6; what++) {
                seen.add(x.bargain(i, what));
            }
        }
        int torn = x.torn();
        seen.add(torn);
        for (int i = 0; i < torn; i++) {
            seen.add(x.pair(i));
        }
        for (int what = 0; what < 3; what++) {
            seen.add(x.foretold(0, what));
            seen.add(x.foretold(1, what));
        }
    }

    private static void year(HiringFairs x, List<Integer> seen) {
        for (int day = 0; day < 364; day += 1 + day / 13) {
            for (int i = 0; i < 5; i++) {
                seen.add(x.due(i, day));
            }
            seen.add(x.hands(0, day));
        }
        for (int i = 0; i < 10; i++) {
            seen.add(x.owes(i, 363));
            seen.add(x.due(i, 363));
        }
    }

    /** A 5 that was heard and a bar where there is no offer anyhow are seen by pass() and bar() alone. */
    private static void heardAndBarred(HiringFairs x, List<Integer> seen) {
        for (int master = 0; master < 10; master++) {
            for (int servant = 0; servant < 10; servant++) {
                seen.add(x.pass(master, (master + 1) % 10, servant));
                seen.add(x.bar(servant, master, true));
            }
        }
    }

    private static void whatIsToCome(HiringFairs x, List<Integer> seen) {
        seen.add(x.text(1));
        seen.add(x.servant(1, 1, 1));
        seen.add(x.master(1, 90));
        seen.add(x.go(1));
        seen.add(x.go(240));
        seen.add(x.days(1));
        for (int i = 0; i < 10; i++) {
            seen.add(x.sick(i, 1));
            seen.add(x.warn(i));
            seen.add(x.send(i));
            seen.add(x.run(i));
            seen.add(x.due(i, 363));
        }
        for (int i = 0; i < x.bargains() && i < 60; i++) {
            seen.add(x.bargain(i, 0));
            seen.add(x.bargain(i, 1));
            seen.add(x.bargain(i, 2));
        }
    }
}
