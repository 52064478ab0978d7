import java.util.Objects;

/** Counts the answers that are not due, and prints them. */
final class Check {
    interface Call {
        Object answer();
    }

    private static int wrong = 0;
    private static int asked = 0;

    private Check() {
    }

    static void due(String call, Object got, Object want) {
        asked++;
        if (!Objects.equals(got, want)) {
            wrong++;
            System.out.println(call + " answered " + got + ", due is " + want);
        }
    }

    static void due(String call, boolean isSo) {
        due(call, isSo, true);
    }

    /** The call throws just that class (none below it: those are the machine's own), and changes nothing. */
    static void isThrown(Secretshares x, String call, Class<?> due, Call made) {
        String before = allOf(x);
        Object got;
        try {
            got = made.answer();
        } catch (RuntimeException e) {
            got = e.getClass();
        }
        due(call, got, due);
        due(call + ", what is there behind it", allOf(x), before);
    }

    static void noIndex(Secretshares x, String call, Call made) {
        isThrown(x, call, IndexOutOfBoundsException.class, made);
    }

    static void noArgument(Secretshares x, String call, Call made) {
        isThrown(x, call, IllegalArgumentException.class, made);
    }

    static void refused(Secretshares x, String call, Call made) {
        String before = allOf(x);
        due(call, made.answer(), -9);
        due(call + ", what is there behind it", allOf(x), before);
    }

    /** All that can be told of an object, so that two of them show whether anything changed. */
    static String allOf(Secretshares x) {
        StringBuilder all = new StringBuilder();
        for (int what = 0; what <= 6; what++) {
            all.append(x.house(what)).append(' ');
        }
        for (int deal = 0; deal <= 5; deal++) {
            all.append('[').append(x.ofDeal(deal, 0)).append(": ").append(x.text(deal));
            all.append(" / ").append(x.seals(deal)).append(']');
        }
        return all.append(x.digest()).toString();
    }

    static void end() {
        if (wrong > 0) {
            System.out.println(wrong + " of " + asked + " answers are wrong");
            System.exit(1);
        }
        System.out.println("all " + asked + " answers are as due");
    }
}
