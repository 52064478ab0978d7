import java.lang.annotation.ElementType;
import java.lang.annotation.Retention;
import java.lang.annotation.RetentionPolicy;
import java.lang.annotation.Target;
import java.lang.reflect.InvocationTargetException;
import java.lang.reflect.Method;
import java.util.Locale;
import java.util.Map;
import java.util.TreeMap;

/**
 * What the tests of boundary cases have in common. Each check begins with an object of its own, so that
 * none comes near the 512 calls that the document promises.
 */
final class Bounds {
    static final int MIN = Integer.MIN_VALUE;
    static final int MAX = Integer.MAX_VALUE;
    static final int REFUSED = -9;
    static final int NONE = -1;
    /** The PRIMES, the GREAT PRIMES, the BASES and M, by WHICH. */
    static final int[][] FIELDS = {{5, 11, 3, 4}, {7, 29, 7, 6}, {11, 23, 2, 7}, {13, 53, 10, 7}, {101, 607, 7, 7},
        {65537, 917519, 5, 7}, {1000003, 36000109, 76, 7}};

    /** The words of the document that a test is there for. */
    @Retention(RetentionPolicy.RUNTIME)
    @Target(ElementType.METHOD)
    @interface Says {
        String value();
    }

    interface Start {
        Secretshares made();
    }

    interface Call {
        Object of(Secretshares x);
    }

    interface At {
        Object of(Secretshares x, int n);
    }

    private static final Class<?> NO_INDEX = IndexOutOfBoundsException.class;
    private static final Class<?> NO_ARGUMENT = IllegalArgumentException.class;

    private Bounds() {
    }

    // ---- objects to begin with

    /** Six EMPTY DEALS. */
    static Secretshares fresh() {
        return new Secretshares();
    }

    /**
     * Of each kind of DEALS one; MOD 13.
     * 0: DEGREE 1, 4 + 3x:       "7 10 0 3 6 9 12",   SEALS "36 46".
     * 1: DEGREE 2, 11 + 5x + 7xx: "10 10 11 - 3 7 12", SEALS "44 42 13" (the SHARE of 4 was 0).
     * 2: DEGREE 2, DEAL 0 times itself: "10 9 0 9 10 3 1", no SEALS.
     * 3: DEGREE 0, the number 5: "- - - - - - -", SEALS "42".
     * 4 and 5: EMPTY.
     */
    static Secretshares made() {
        Secretshares x = new Secretshares();
        x.hide(0, 1, 4, 3, 0, 0);
        x.hide(1, 2, 11, 5, 7, 0);
        x.lose(1, 4);
        x.times(0, 0, 2);
        x.hide(3, 0, 5, 0, 0, 0);
        loseAll(x, 3);
        x.knock();
        return x;
    }

    /** No DEAL is EMPTY, and no SHARE is lost. */
    static Secretshares full() {
        return filled(3);
    }

    /** With that PRIME no DEAL is EMPTY, and no SHARE is lost. */
    static Secretshares filled(int which) {
        Secretshares x = new Secretshares();
        x.prime(which);
        for (int deal = 0; deal <= 5; deal++) {
            x.hide(deal, deal % 4, deal, 2, 3, 4);
        }
        return x;
    }

    static void loseAll(Secretshares x, int deal) {
        for (int holder = 1; holder <= x.house(4); holder++) {
            x.lose(deal, holder);
        }
    }

    static void lose(Secretshares x, int deal, int... holders) {
        for (int holder : holders) {
            x.lose(deal, holder);
        }
    }

    // ---- one call

    static void throwsIndex(Start start, String call, Call made) {
        Secretshares x = start.made();
        Check.isThrown(x, call, NO_INDEX, () -> made.of(x));
    }

    static void throwsArgument(Start start, String call, Call made) {
        Secretshares x = start.made();
        Check.isThrown(x, call, NO_ARGUMENT, () -> made.of(x));
    }

    /** The call answers REFUSED, and nothing changes. */
    static void refused(Start start, String call, Call made) {
        answers(start, call, REFUSED, made);
    }

    /** The call answers that, and nothing changes. */
    static void answers(Start start, String call, Object want, Call made) {
        Secretshares x = start.made();
        Check.answers(x, call, want, () -> made.of(x));
    }

    /** The call throws nothing. */
    static void isLet(Start start, String call, Call made) {
        Object thrown = null;
        try {
            made.of(start.made());
        } catch (RuntimeException e) {
            thrown = e.getClass();
        }
        Check.due(call + ", what it throws", thrown, null);
    }

    static void due(String call, Object got, Object want) {
        Check.due(call, got, want);
    }

    /** That DEAL has this DEGREE, these SHARES and these SEALS. */
    static void dealIs(Secretshares x, int deal, int degree, String shares, String seals) {
        due("DEGREE of the deal " + deal, x.ofDeal(deal, 0), degree);
        due("SHARES of the deal " + deal, x.text(deal), shares);
        due("SEALS of the deal " + deal, x.seals(deal), seals);
    }

    static void isEmpty(Secretshares x, int deal) {
        dealIs(x, deal, NONE, "", "");
        due("SHARES of the EMPTY deal " + deal, x.ofDeal(deal, 1), 0);
        due("SEALS of the EMPTY deal " + deal, x.ofDeal(deal, 3), 0);
    }

    /** All that is there, but for one DEAL. */
    static String allBut(Secretshares x, int but) {
        StringBuilder all = new StringBuilder();
        for (int what : new int[] {0, 6}) {
            all.append(x.house(what)).append(' ');
        }
        for (int deal = 0; deal <= 5; deal++) {
            if (deal != but) {
                all.append('[').append(x.ofDeal(deal, 0)).append(": ");
                all.append(x.text(deal)).append(" / ").append(x.seals(deal)).append(']');
            }
        }
        return all.toString();
    }

    /** The call answers that, and changes nothing but what is in that DEAL, of which the SEALS stay. */
    static void changesSharesOf(Secretshares x, int deal, String call, Object want, Call made) {
        String others = allBut(x, deal);
        String seals = x.seals(deal);
        int degree = x.ofDeal(deal, 0);
        due(call, made.of(x), want);
        due(call + ", all other DEALS", allBut(x, deal), others);
        due(call + ", SEALS", x.seals(deal), seals);
        due(call + ", DEGREE", x.ofDeal(deal, 0), degree);
    }

    /** The call answers that, and changes nothing but what is in that DEAL. */
    static void changesJust(Secretshares x, int deal, String call, Object want, Call made) {
        String others = allBut(x, deal);
        due(call, made.of(x), want);
        due(call + ", all other DEALS", allBut(x, deal), others);
    }

    // ---- arguments at their bounds, in objects with six EMPTY DEALS, with some, and with none

    private static final Start[] STARTS = {Bounds::fresh, Bounds::made, Bounds::full};

    static void dealTooSmall(String call, At at) {
        for (Start start : STARTS) {
            throwsIndex(start, call + " of the deal -1", x -> at.of(x, -1));
            throwsIndex(start, call + " of the deal MIN", x -> at.of(x, MIN));
            isLet(start, call + " of the deal 0", x -> at.of(x, 0));
        }
    }

    static void dealTooLarge(String call, At at) {
        for (Start start : STARTS) {
            throwsIndex(start, call + " of the deal 6", x -> at.of(x, 6));
            throwsIndex(start, call + " of the deal MAX", x -> at.of(x, MAX));
            isLet(start, call + " of the deal 5", x -> at.of(x, 5));
        }
    }

    static void dealBounds(String call, At at) {
        dealTooSmall(call, at);
        dealTooLarge(call, at);
    }

    static void holderBounds(String call, At at) {
        for (int which = 0; which <= 6; which++) {
            int told = which;
            int m = FIELDS[which][3];
            String with = call + " with WHICH " + which + " of the holder ";
            for (int holder : new int[] {0, -1, MIN, m + 1, m + 2, MAX}) {
                throwsIndex(() -> filled(told), with + holder, x -> at.of(x, holder));
            }
            isLet(() -> filled(told), with + 1, x -> at.of(x, 1));
            isLet(() -> filled(told), with + m, x -> at.of(x, m));
        }
        for (Start start : STARTS) {
            throwsIndex(start, call + " of the holder 0", x -> at.of(x, 0));
            throwsIndex(start, call + " of the holder 8", x -> at.of(x, 8));
        }
    }

    static void setBounds(String call, At at) {
        for (int which = 0; which <= 6; which++) {
            int told = which;
            int most = (1 << FIELDS[which][3]) - 1;
            String with = call + " with WHICH " + which + " of the set ";
            for (int set : new int[] {0, -1, MIN, most + 1, most + 2, 2 * most + 1, MAX}) {
                throwsArgument(() -> filled(told), with + set, x -> at.of(x, set));
            }
            isLet(() -> filled(told), with + 1, x -> at.of(x, 1));
            isLet(() -> filled(told), with + most, x -> at.of(x, most));
        }
        for (Start start : STARTS) {
            throwsArgument(start, call + " of the set 0", x -> at.of(x, 0));
            throwsArgument(start, call + " of the set 128", x -> at.of(x, 128));
        }
    }

    /** What is 0 to most is let, and what is less or more is not. */
    static void upTo(int most, String call, At at) {
        for (Start start : STARTS) {
            for (int what : new int[] {-1, MIN, most + 1, most + 2, MAX}) {
                throwsArgument(start, call + " with " + what, x -> at.of(x, what));
            }
            for (int what = 0; what <= most; what++) {
                int let = what;
                isLet(start, call + " with " + what, x -> at.of(x, let));
            }
        }
    }

    /** Where two exceptions apply, it is that of the index; in whichever object. */
    static void indexGoesFirst(String call, Call made) {
        for (Start start : STARTS) {
            throwsIndex(start, call, made);
        }
    }

    // ---- running

    /** Runs all tests of the class; each of the promises told must have one. */
    static void run(Class<?> tests, int firstPromise, int lastPromise) throws IllegalAccessException {
        Map<String, Method> byName = new TreeMap<>();
        for (Method method : tests.getDeclaredMethods()) {
            if (method.getName().startsWith("promise")) {
                byName.put(method.getName(), method);
            }
        }
        for (int promise = firstPromise; promise <= lastPromise; promise++) {
            String start = String.format(Locale.ROOT, "promise%02d", promise);
            due("a test of " + start, byName.keySet().stream().anyMatch(name -> name.startsWith(start)), true);
        }
        for (Map.Entry<String, Method> test : byName.entrySet()) {
            Says says = test.getValue().getAnnotation(Says.class);
            Check.begin(test.getKey() + " (" + (says == null ? "" : says.value()) + ")");
            due("the words that it is there for", says != null, true);
            try {
                test.getValue().invoke(null);
            } catch (InvocationTargetException e) {
                due("what it throws", e.getCause(), null);
            }
        }
        Check.begin(tests.getName());
        System.out.println(byName.size() + " tests of boundary cases ran");
        Check.end();
    }
}
