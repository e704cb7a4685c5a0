import java.lang.reflect.InvocationTargetException;
import java.lang.reflect.Method;
import java.util.ArrayList;
import java.util.Comparator;
import java.util.List;

/**
 * Long runs of calls, always the same ones, on an object and on the Model beside it: each answer
 * and each exception has to be like, and at the end all that can be told of the state. A run has
 * no more calls than an object is used for.
 */
public final class ModelTest {
    private static final int RUNS = 1200;
    private static final int CALL_LIMIT = 512;
    private static final String[] LAST_CALLS = {
        "digest", "text 0", "text 1", "text 2", "text 3", "text 4", "text 5", "row", "exact",
        "rounded", "error", "house 0", "house 1", "house 2", "house 3", "house 4"
    };
    private static final int[] EDGES = {
        0, 1, -1, 2, -2, 3, 9, 10, 11, 16, 17, 50, 51, 199, 200, 201, 99999, -99999, 100000,
        -100000, 999999999, 1000000000, 1000000001, -1000000000, -1000000001, 500000000,
        701408733, 433494437, 2000000000, Integer.MAX_VALUE, Integer.MIN_VALUE
    };
    private static final Checks CHECKS = new Checks("ModelTest");

    private long seed;

    private ModelTest(long seed) {
        this.seed = seed;
    }

    public static void main(String[] args) throws ReflectiveOperationException {
        List<Method> face = new ArrayList<>();
        for (Method method : Bestratios.class.getDeclaredMethods()) {
            if (java.lang.reflect.Modifier.isPublic(method.getModifiers())) {
                face.add(method);
            }
        }
        // The machine tells the methods in no certain order.
        face.sort(Comparator.comparing(Method::getName));
        for (int run = 0; run < RUNS; run++) {
            new ModelTest(run).run(face, run);
        }
        CHECKS.end();
    }

    private void run(List<Method> face, int run) throws ReflectiveOperationException {
        Bestratios x = new Bestratios();
        Model model = new Model();
        // Some runs keep to small numbers, so that like and NEXT ones come up often.
        int size = run % 4;
        for (int call = 0; call < CALL_LIMIT - LAST_CALLS.length; call++) {
            Method method = pick(face);
            Object[] args = argumentsOf(method, size);
            Method twin = Model.class.getMethod(method.getName(), method.getParameterTypes());
            String what = "run " + run + " call " + call + " " + method.getName()
                    + java.util.Arrays.toString(args);
            Object due = answer(twin, model, args);
            Object got = answer(method, x, args);
            CHECKS.same(what, got, due);
            if (!got.equals(due)) {
                return;
            }
        }
        for (String call : LAST_CALLS) {
            CHECKS.same("run " + run + " at its end: " + call, EdgeRun.answerOf(call, x),
                    EdgeRun.answerOf(call, model));
        }
    }

    private Method pick(List<Method> face) {
        // What fills the RATIOS comes more often than what uses them up.
        String[] often = {"put", "putDecimal", "say", "digest", "tally", "down", "fold"};
        if (below(4) == 0) {
            String name = often[below(often.length)];
            for (Method method : face) {
                if (method.getName().equals(name)) {
                    return method;
                }
            }
        }
        return face.get(below(face.size()));
    }

    private Object[] argumentsOf(Method method, int size) {
        Class<?>[] types = method.getParameterTypes();
        Object[] args = new Object[types.length];
        int ratios = ratiosOf(method.getName());
        for (int k = 0; k < args.length; k++) {
            if (types[k] == boolean.class) {
                args[k] = below(2) == 1;
            } else if (k < ratios) {
                args[k] = below(60) == 0 ? below(2) * 7 - 1 : below(6);
            } else {
                args[k] = number(method.getName(), k, size);
            }
        }
        return args;
    }

    /** How many of a method's arguments, from the first one on, are RATIOS. */
    private static int ratiosOf(String name) {
        switch (name) {
            case "plus", "minus", "times", "over", "mediant":
                return 3;
            case "copy", "swap", "compare", "areNext", "convergent", "lower", "upper", "best",
                    "simplest":
                return 2;
            case "say", "unsay", "house":
                return 0;
            default:
                return 1;
        }
    }

    private int number(String name, int k, int size) {
        if (below(25) == 0) {
            return EDGES[below(EDGES.length)];
        }
        switch (name) {
            case "put", "putDecimal":
                return name.equals("put") || k == 1 ? free(size) : below(10);
            case "raise":
                return below(13) - 6;
            case "part", "house":
                return below(5);
            case "term", "convergent":
                return below(8);
            case "say":
                return below(3) == 0 ? below(200001) - 100000 : below(4) + (below(9) == 0 ? -2 : 1);
            case "unsay":
                return below(5);
            case "lower", "upper", "best":
                return size == 0 ? 1 + below(12) : 1 + below(200);
            case "next":
                return 1 + below(50);
            case "cut":
                return k == 1 ? below(10) : below(5);
            case "simplest":
                return k == 2 ? below(3) : below(5);
            default:
                return below(5);
        }
    }

    private int free(int size) {
        switch (size) {
            case 0:
                return below(25) - 8;
            case 1:
                return below(2001) - 500;
            case 2:
                return below(3) == 0 ? EDGES[below(EDGES.length)] : below(1000000);
            default:
                return below(2000000000) - (below(3) == 0 ? 1000000000 : 0);
        }
    }

    /** A number from 0 to bound - 1; the same ones in every run of the test. */
    private int below(int bound) {
        seed = seed * 6364136223846793005L + 1442695040888963407L;
        return (int) ((seed >>> 33) % bound);
    }

    private static Object answer(Method method, Object on, Object[] args)
            throws ReflectiveOperationException {
        try {
            return method.invoke(on, args);
        } catch (InvocationTargetException e) {
            return "throws." + e.getCause().getClass().getSimpleName();
        }
    }
}
