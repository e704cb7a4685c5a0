import java.lang.reflect.InvocationTargetException;
import java.lang.reflect.Method;
import java.util.ArrayList;
import java.util.Arrays;
import java.util.HashMap;
import java.util.HashSet;
import java.util.List;
import java.util.Map;
import java.util.Set;

/**
 * One run of calls on a new object, as the files under src/test/edges tell it, and on a Model
 * beside it: "put 0 1 2; 3 * tally 0 1 0 = 3". A call with an answer has to answer that; one
 * without has to be neither refused nor answered by an exception.
 */
final class EdgeRun {
    private static final Map<String, Method> FACE = new HashMap<>();
    private static final Set<String> READINGS = new HashSet<>(Arrays.asList(
            "text", "part", "compare", "areNext", "terms", "term", "row", "depth", "way", "cut",
            "exact", "rounded", "error", "house", "isSound", "digest"));
    private static final int CALL_LIMIT = 512;
    private static final int STATE_CALLS = 15;

    static {
        for (Method method : Bestratios.class.getMethods()) {
            if (method.getDeclaringClass() == Bestratios.class) {
                FACE.put(method.getName(), method);
            }
        }
    }

    private final Bestratios object = new Bestratios();
    private final Model model = new Model();
    private final String[] calls;
    private final boolean isWatched;

    EdgeRun(String calls) {
        this.calls = calls.split("; ");
        // Watching the state takes calls too, and of those an object has a certain number.
        isWatched = callsIn(this.calls) + STATE_CALLS * (this.calls.length + 1) <= CALL_LIMIT;
    }

    private static int callsIn(String[] calls) {
        int sum = 0;
        for (String call : calls) {
            sum += timesOf(call);
        }
        return sum;
    }

    private static int timesOf(String call) {
        int star = call.indexOf(" * ");
        return star < 0 ? 1 : Integer.parseInt(call.substring(0, star).trim());
    }

    /** Tells the first thing that is wrong, or "". */
    String fault() throws ReflectiveOperationException {
        if (callsIn(calls) > CALL_LIMIT) {
            return "more calls than an object is used for";
        }
        String before = isWatched ? state() : "";
        int refusals = isWatched ? object.house(1) : 0;
        for (String call : calls) {
            String answer = "";
            for (int time = timesOf(call); time > 0; time--) {
                answer = answerOf(call, object);
                String twin = answerOf(call, model);
                if (!answer.equals(twin)) {
                    return call + " answered " + answer + ", the Model " + twin;
                }
                if (!call.contains(" = ") && isRefused(answer)) {
                    return call + " answered " + answer;
                }
            }
            String due = call.contains(" = ") ? call.substring(call.indexOf(" = ") + 3) : answer;
            if (!answer.equals(due)) {
                return call + " answered " + answer;
            }
            if (isWatched) {
                String after = state();
                int refusalsThen = object.house(1);
                boolean isCounted = answer.equals("-9") && !READINGS.contains(nameOf(call));
                if (refusalsThen != refusals + (isCounted ? timesOf(call) : 0)) {
                    return call + " left the count of REFUSED at " + refusalsThen;
                }
                if (hasToChangeNothing(call, answer) && !after.equals(before)) {
                    return call + " changed what was " + before + " to " + after;
                }
                before = after;
                refusals = refusalsThen;
            }
        }
        return "";
    }

    private static boolean isRefused(String answer) {
        return answer.equals("-9") || answer.equals("\"!\"") || answer.startsWith("throws.");
    }

    private static boolean hasToChangeNothing(String call, String answer) {
        return READINGS.contains(nameOf(call)) || isRefused(answer);
    }

    /** All that can be told of the object but how often REFUSED was told. */
    private String state() {
        StringBuilder out = new StringBuilder();
        for (int ratio = 0; ratio < 6; ratio++) {
            out.append(object.text(ratio)).append(' ');
        }
        out.append('[').append(object.row()).append("] ").append(object.exact()).append(' ');
        out.append(object.rounded()).append(' ').append(object.error());
        for (int what = 0; what <= 4; what += what == 0 ? 2 : 1) {
            out.append(' ').append(object.house(what));
        }
        return out.toString();
    }

    private static String nameOf(String call) {
        return wordsOf(call)[0];
    }

    /** The name of the method and its arguments. */
    private static String[] wordsOf(String call) {
        String bare = call.contains(" = ") ? call.substring(0, call.indexOf(" = ")) : call;
        bare = bare.contains(" * ") ? bare.substring(bare.indexOf(" * ") + 3) : bare;
        return bare.trim().split(" ");
    }

    /** What an object, or a Model, answers to a call, told as a run tells it. */
    static String answerOf(String call, Object on) throws ReflectiveOperationException {
        String[] words = wordsOf(call);
        Method method = FACE.get(words[0]);
        if (method == null || method.getParameterCount() != words.length - 1) {
            return "no such call";
        }
        Class<?>[] types = method.getParameterTypes();
        Object[] args = new Object[types.length];
        for (int k = 0; k < args.length; k++) {
            args[k] = argumentOf(words[k + 1], types[k]);
        }
        try {
            Method called = on.getClass().getMethod(words[0], types);
            Object answer = called.invoke(on, args);
            return answer instanceof String ? "\"" + answer + "\"" : String.valueOf(answer);
        } catch (InvocationTargetException e) {
            return "throws." + e.getCause().getClass().getSimpleName();
        }
    }

    private static Object argumentOf(String word, Class<?> type) {
        if (type == boolean.class) {
            if (!word.equals("true") && !word.equals("false")) {
                throw new IllegalArgumentException(word);
            }
            return word.equals("true");
        }
        if (word.equals("MIN") || word.equals("MAX")) {
            return word.equals("MIN") ? Integer.MIN_VALUE : Integer.MAX_VALUE;
        }
        return Integer.valueOf(word);
    }

    /** The runs that a line stands for: of "{a|b}" one with a and one with b. */
    static List<String> runsOf(String line) {
        List<String> runs = new ArrayList<>();
        int open = line.indexOf('{');
        int shut = line.indexOf('}');
        if (open < 0 || shut < open) {
            runs.add(line);
            return runs;
        }
        for (String choice : line.substring(open + 1, shut).split("\\|")) {
            runs.addAll(runsOf(line.substring(0, open) + choice + line.substring(shut + 1)));
        }
        return runs;
    }
}
