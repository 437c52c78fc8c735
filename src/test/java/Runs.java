import java.util.regex.Matcher;
import java.util.regex.Pattern;

/**
 * Runs of calls written as text, each on a new object, the answers that are due behind "=":
 * "servant(0, 5, 10) = 0; x9 master(0, 60); master(0, 60) = FULL". The model is held to the same
 * answers, so that it does not drift away from the document with the class.
 */
final class Runs {
    private static final Pattern CALL = Pattern.compile("(?:x(\\d+) )?(\\w+)\\(([^)]*)\\)(?: = (\\S+))?");
    private static final int CALLS_AT_MOST = 512;

    private final Check check;

    Runs(Check check) {
        this.check = check;
    }

    /** The sentence of the document for which the run stands, then the run. */
    void sentence(String sentence, String... run) {
        HiringFairs x = new HiringFairs();
        Model model = new Model();
        int calls = 0;
        for (String told : String.join("; ", run).split(";")) {
            Matcher call = CALL.matcher(told.trim());
            if (!call.matches()) {
                throw new IllegalArgumentException("no call: " + told);
            }
            int times = call.group(1) == null ? 1 : Integer.parseInt(call.group(1));
            for (int i = 0; i < times; i++) {
                make(sentence, x, model, call);
            }
            calls += times;
        }
        if (calls > CALLS_AT_MOST) {
            throw new IllegalArgumentException("nothing is promised of so many calls: " + sentence);
        }
    }

    private void make(String sentence, HiringFairs x, Model model, Matcher call) {
        Object[] arguments = arguments(call.group(3));
        int got = Calls.call(x, call.group(2), arguments);
        int ofModel = Calls.call(model, call.group(2), arguments);
        if (call.group(4) != null) {
            int want = number(call.group(4));
            check.due("'" + sentence + "': " + call.group(), got, want);
            check.due("'" + sentence + "', the model: " + call.group(), ofModel, want);
        }
    }

    private static Object[] arguments(String told) {
        String[] words = told.isBlank() ? new String[0] : told.split(",");
        Object[] arguments = new Object[words.length];
        for (int i = 0; i < words.length; i++) {
            String word = words[i].trim();
            boolean flag = word.equals("true") || word.equals("false");
            arguments[i] = flag ? (Object) Boolean.valueOf(word) : (Object) number(word);
        }
        return arguments;
    }

    private static int number(String word) {
        switch (word) {
            case "UNKNOWN": return -1;
            case "BAD": return -2;
            case "STATE": return -3;
            case "FULL": return -4;
            case "NONE": return -9;
            case "MIN": return Integer.MIN_VALUE;
            case "MAX": return Integer.MAX_VALUE;
            default: return Integer.parseInt(word);
        }
    }
}
