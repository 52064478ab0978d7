import java.util.Objects;

/** Counts the answers that are not due, and prints them. */
final class Check {
    interface Call {
        Object answer();
    }

    private static String test = "";
    private static int wrong = 0;
    private static int asked = 0;

    private Check() {
    }

    /** What is printed of wrong answers names this test from here on. */
    static void begin(String name) {
        test = name + ": ";
    }

    static void due(String call, Object got, Object want) {
        asked++;
        if (!Objects.equals(got, want)) {
            wrong++;
            System.out.println(test + call + " answered " + got + ", due is " + want);
        }
    }

    static void due(String call, boolean isSo) {
        due(call, isSo, true);
    }

    /** The call throws just that class (none below it: those are the machine's own), and changes nothing. */
    static void isThrown(Secretshares x, String call, Class<?> due, Call made) {
        String before = allOf(x);
        Object got;
        try {
            got = made.answer();
        } catch (RuntimeException e) {
            got = e.getClass();
        }
        due(call, got, due);
        due(call + ", what is there behind it", allOf(x), before);
    }

    static void noIndex(Secretshares x, String call, Call made) {
        isThrown(x, call, IndexOutOfBoundsException.class, made);
    }

    static void noArgument(Secretshares x, String call, Call made) {
        isThrown(x, call, IllegalArgumentException.class, made);
    }

    /** The call answers that, and changes nothing. */
    static void answers(Secretshares x, String call, Object want, Call made) {
        String before = allOf(x);
        due(call, made.answer(), want);
        due(call + ", what is there behind it", allOf(x), before);
    }

    static void refused(Secretshares x, String call, Call made) {
        answers(x, call, -9, made);
    }

    /**
     * All that can be told of an object, so that two of them show whether anything changed: two calls,
     * as an object is promised to answer 512 of them only. The digest tells SHARES and SEALS.
     */
    static String allOf(Secretshares x) {
        return x.house(0) + " " + x.digest();
    }

    static void end() {
        if (wrong > 0) {
            System.out.println(wrong + " of " + asked + " answers are wrong");
            System.exit(1);
        }
        System.out.println("all " + asked + " answers are as due");
    }
}
