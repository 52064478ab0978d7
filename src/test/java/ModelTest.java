import java.lang.reflect.InvocationTargetException;
import java.lang.reflect.Method;
import java.util.HashMap;
import java.util.Map;

/** Long runs of calls, each answer compared with that of the Model; the calls are always the same ones. */
public final class ModelTest {
    private static final int RUNS = 700;
    /** With its digests a run stays below the 512 calls that the document promises of an object. */
    private static final int CALLS = 250;
    private static final int CALLS_OF_A_LONG_RUN = 500;
    private static final int CALLS_TO_A_DIGEST_OF_A_LONG_RUN = 50;

    /**
     * Each method with the kinds of its arguments: d DEAL, h HOLDER, s SET of any HOLDERS, t SET that is
     * mostly THERE, n any number, b boolean; a digit: 0 to that number, now and then just outside.
     * How often a method stands here is how often it is called.
     */
    private static final String[] KINDS = {
        "prime 6", "rest n", "reckon nn3", "reciprocal n", "power nn", "sealOf n", "weight shn", "weights sn",
        "hide d3nnnn", "hide d3nnnn", "hide d3nnnn", "hide d3nnnn", "hide d3nnnn", "hide d3nnnn",
        "pour dnnnn", "pour dnnnn", "plus ddd", "plus ddd", "plus ddd", "less ddd", "less ddd", "less ddd",
        "times ddd", "times ddd", "times ddd", "scale dnd", "scale dnd", "handOn dtd3nn", "handOn dtd3nn",
        "lose dh", "lose dh", "lose dh", "lose dh", "give dhn", "give dhn", "give dhn", "give dhn",
        "regain dht", "regain dht", "mend d", "mend d", "mend d", "copy dd", "copy dd", "drop d", "knock",
        "share dh", "ofDeal d5", "ofDeal d5", "ofDeal d5", "ofDeal d5", "told dtn", "told dtn", "open dt", "open dt",
        "coefficient dt6", "coefficient dt6", "degreeBy dt", "degreeBy dt", "agrees dt", "agrees dt", "suspects d",
        "suspects d", "wrong d", "wrong d", "ways dtn", "ways dtn", "ways dtn", "total dt", "seal d6", "fits dh",
        "fits dh", "fits dh", "order ddh", "most db", "text d", "seals d", "isSame dd", "house 6", "isSound", "digest",
    };
    private static final int[] NUMBERS = {0, 1, -1, 5, 7, 11, 12, 13, 14, 101, 65536, 65537, 1000002, 1000003, 36000109,
        Integer.MAX_VALUE, Integer.MIN_VALUE, Integer.MIN_VALUE + 1, -13, -1000003};

    private static long state = 20261120L;
    private static Secretshares program;
    private static Model model;

    private ModelTest() {
    }

    public static void main(String[] args) throws ReflectiveOperationException {
        Map<String, Method> ofProgram = methodsOf(Secretshares.class);
        Map<String, Method> ofModel = methodsOf(Model.class);
        for (int run = 0; run < RUNS; run++) {
            program = new Secretshares();
            model = new Model();
            int which = run % 8;
            if (which < 7) {
                Check.due("run " + run + ": prime(" + which + ")", program.prime(which), model.prime(which));
            }
            boolean isLong = run % 16 < 8;
            for (int call = 1; call <= (isLong ? CALLS_OF_A_LONG_RUN : CALLS); call++) {
                String[] kind = KINDS[below(KINDS.length)].split(" ");
                boolean isRare = kind[0].equals("prime") && below(10) > 0;
                if (!isRare) {
                    compare(run, ofProgram.get(kind[0]), ofModel.get(kind[0]), kind.length > 1 ? kind[1] : "");
                }
                if (!isLong || call % CALLS_TO_A_DIGEST_OF_A_LONG_RUN == 0) {
                    Check.due("run " + run + ": digest behind call " + call, program.digest(), model.digest());
                }
            }
        }
        Check.end();
    }

    private static Map<String, Method> methodsOf(Class<?> from) {
        Map<String, Method> all = new HashMap<>();
        for (Method method : from.getDeclaredMethods()) {
            boolean isPrivate = java.lang.reflect.Modifier.isPrivate(method.getModifiers());
            if (!isPrivate) {
                all.put(method.getName(), method);
            }
        }
        return all;
    }

    private static void compare(int run, Method one, Method other, String kinds) throws IllegalAccessException {
        Object[] given = new Object[kinds.length()];
        StringBuilder text = new StringBuilder("run " + run + ": " + one.getName() + "(");
        int deal = 0;
        for (int i = 0; i < given.length; i++) {
            given[i] = argument(kinds.charAt(i), deal);
            if (i == 0 && kinds.charAt(0) == 'd') {
                deal = (Integer) given[0];
            }
            text.append(i == 0 ? "" : ", ").append(given[i]);
        }
        Check.due(text + ")", answer(one, program, given), answer(other, model, given));
    }

    private static Object answer(Method method, Object of, Object[] given) throws IllegalAccessException {
        try {
            return method.invoke(of, given);
        } catch (InvocationTargetException e) {
            return e.getCause().getClass();
        }
    }

    private static Object argument(char kind, int deal) {
        int holders = model.house(4);
        switch (kind) {
            case 'd':
                return below(40) == 0 ? below(2) * 7 - 1 : below(3) == 0 ? below(6) : below(3);
            case 'h':
                return below(40) == 0 ? below(2) * (holders + 1) : 1 + below(holders);
            case 's':
                return below(30) == 0 ? below(2) << holders : 1 + below((1 << holders) - 1);
            case 't':
                return setThere(deal, holders);
            case 'b':
                return below(2) == 0;
            case 'n':
                return number();
            default:
                int most = kind - '0';
                return below(40) == 0 ? below(2) * (most + 2) - 1 : below(most + 1);
        }
    }

    private static int setThere(int deal, int holders) {
        int all = deal < 0 || deal > 5 ? 0 : model.ofDeal(deal, 2);
        int mask = below(3) == 0 ? all : all & below(1 << holders);
        return mask == 0 || below(8) == 0 ? below((1 << holders) + 1) : mask;
    }

    private static int number() {
        int kind = below(4);
        if (kind == 0) {
            return NUMBERS[below(NUMBERS.length)];
        }
        return kind == 1 ? below(20) - 5 : (int) (next() >>> 16);
    }

    private static int below(int bound) {
        return (int) ((next() >>> 20) % bound);
    }

    private static long next() {
        state = state * 6364136223846793005L + 1442695040888963407L;
        return state;
    }
}
