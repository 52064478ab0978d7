import java.util.function.IntFunction;

/** Each promise of the document by hand: ordinary arguments, its edges, and wrong ones. */
public final class PromisesTest {
    private static final int MIN = Integer.MIN_VALUE;
    private static final int MAX = Integer.MAX_VALUE;
    /** 10 raised to 0 to 12, MOD 53. */
    private static final int[] SEALS_OF_13 = {1, 10, 47, 46, 36, 42, 49, 13, 24, 28, 15, 44, 16};
    private static final int[] NO_DEALS = {-1, 6, MIN, MAX};
    private static final int[] NO_SETS = {0, 128, -1, MIN, MAX};
    private static final int[] NO_HOLDERS = {0, 8, -1, MIN, MAX};

    private PromisesTest() {
    }

    public static void main(String[] args) {
        promise01();
        promise02();
        promise03();
        promise04();
        promise05();
        promise06();
        promise07();
        promise08();
        promise09();
        promise10();
        promise11();
        promise12();
        promise13();
        promise14();
        promise15();
        promise16();
        promise17();
        promise18();
        promise19();
        promise20();
        promise21();
        promise22();
        promise23();
        promise24();
        promise25();
        promise26();
        promise27();
        promise28();
        promise29();
        promise30();
        promise31();
        promise32();
        promise33();
        promise34();
        promise35();
        promise36();
        promise37();
        promise38();
        promise39();
        promise40();
        promise41();
        promise42();
        promise43();
        promise44();
        Check.end();
    }

    // ---- wrong arguments, which many promises have in common

    private static Secretshares made() {
        Secretshares x = new Secretshares();
        x.hide(0, 1, 4, 3, 0, 0);
        x.hide(1, 2, 11, 5, 7, 0);
        x.lose(1, 4);
        x.knock();
        return x;
    }

    private static void noDeal(String call, Secretshares x, IntFunction<Object> made) {
        for (int deal : NO_DEALS) {
            Check.noIndex(x, call + " of the deal " + deal, () -> made.apply(deal));
        }
    }

    private static void noHolder(String call, Secretshares x, IntFunction<Object> made) {
        for (int holder : NO_HOLDERS) {
            Check.noIndex(x, call + " of the holder " + holder, () -> made.apply(holder));
        }
    }

    private static void noSet(String call, Secretshares x, IntFunction<Object> made) {
        for (int set : NO_SETS) {
            Check.noArgument(x, call + " of the set " + set, () -> made.apply(set));
        }
    }

    private static void notWithin(String call, Secretshares x, int most, IntFunction<Object> made) {
        for (int what : new int[] {-1, most + 1, MIN, MAX}) {
            Check.noArgument(x, call + " with " + what, () -> made.apply(what));
        }
    }

    private static void due(String call, Object got, Object want) {
        Check.due(call, got, want);
    }

    // ---- the field

    private static void promise01() {
        Secretshares x = new Secretshares();
        due("new: WHICH", x.house(0), 3);
        due("new: DEALS", x.house(5), 0);
        due("new: knocks", x.house(6), 0);
        for (int deal = 0; deal <= 5; deal++) {
            due("new: DEGREE", x.ofDeal(deal, 0), -1);
            due("new: text", x.text(deal), "");
            for (int holder = 1; holder <= 7; holder++) {
                due("new: SHARE", x.share(deal, holder), -1);
            }
        }
        Secretshares other = new Secretshares();
        x.prime(0);
        x.knock();
        x.hide(0, 1, 1, 1, 1, 1);
        due("another one: p", other.house(1), 13);
        due("another one: knocks", other.house(6), 0);
        due("another one: DEALS", other.house(5), 0);
    }

    private static void promise02() {
        int[][] fields = {{5, 11, 3, 4}, {7, 29, 7, 6}, {11, 23, 2, 7}, {13, 53, 10, 7}, {101, 607, 7, 7},
            {65537, 917519, 5, 7}, {1000003, 36000109, 76, 7}};
        Secretshares x = new Secretshares();
        int before = 13;
        for (int which = 0; which <= 6; which++) {
            due("prime(" + which + ")", x.prime(which), before);
            before = fields[which][0];
            due("WHICH", x.house(0), which);
            for (int what = 0; what < 4; what++) {
                due("house of " + which, x.house(what + 1), fields[which][what]);
            }
            int last = x.sealOf(-1);
            due("g raised to p", (long) last * x.sealOf(1) % fields[which][1], 1L);
        }
        x.prime(3);
        due("knock()", x.knock(), 1);
        for (int deal = 0; deal <= 5; deal++) {
            x.hide(deal, 3, 1, 2, 3, 4);
        }
        due("DEALS", x.house(5), 6);
        due("prime(3) again", x.prime(3), 13);
        due("DEALS, another PRIME told", x.house(5), 0);
        due("text, another PRIME told", x.text(5), "");
        due("seals, another PRIME told", x.seals(5), "");
        due("SHARE, another PRIME told", x.share(5, 7), -1);
        due("knocks, another PRIME told", x.house(6), 1);
        x.prime(2);
        x.hide(0, 1, 1, 1, 0, 0);
        x.prime(0);
        x.hide(0, 1, 1, 1, 0, 0);
        due("HOLDERS of the PRIME 5", x.text(0), "2 3 4 0");
        Secretshares y = made();
        notWithin("prime()", y, 6, y::prime);
    }

    private static void promise03() {
        Secretshares x = new Secretshares();
        int[][] rests = {{0, 0}, {12, 12}, {13, 0}, {14, 1}, {-1, 12}, {-13, 0}, {-14, 12}, {MAX, 10}, {MIN, 2}};
        for (int[] rest : rests) {
            due("rest(" + rest[0] + ")", x.rest(rest[0]), rest[1]);
        }
        x.prime(6);
        due("rest(MAX)", x.rest(MAX), 477206);
        due("rest(MIN)", x.rest(MIN), 522796);
        due("rest(1000003)", x.rest(1000003), 0);
    }

    private static void promise04() {
        Secretshares x = made();
        int[][] rows = {{7, 9, 0, 3}, {7, 9, 1, 11}, {7, 9, 2, 11}, {7, 9, 3, 8}, {0, 5, 3, 0}, {-7, 9, 3, 5},
            {MAX, MAX, 0, 7}, {MIN, MIN, 0, 4}, {MIN, MAX, 1, 5}, {MAX, MIN, 1, 8}, {MIN, MIN, 2, 4}, {MAX, MIN, 2, 7},
            {MIN, MAX, 3, 8}, {13, 26, 0, 0}, {13, 0, 2, 0}};
        for (int[] row : rows) {
            due("reckon(" + row[0] + ", " + row[1] + ", " + row[2] + ")", x.reckon(row[0], row[1], row[2]), row[3]);
        }
        for (int zero : new int[] {0, 13, -13, 26}) {
            Check.refused(x, "reckon by " + zero, () -> x.reckon(7, zero, 3));
            notWithin("reckon()", x, 3, how -> x.reckon(7, zero, how));
        }
        x.prime(6);
        due("reckon(-1, -1, 2)", x.reckon(-1, -1, 2), 1);
        due("reckon(1, 2, 3)", x.reckon(1, 2, 3), 500002);
        due("reckon(1000002, 1000002, 0)", x.reckon(1000002, 1000002, 0), 1000001);
    }

    private static void promise05() {
        Secretshares x = new Secretshares();
        int[] due = {1, 7, 9, 10, 8, 11, 2, 5, 3, 4, 6, 12};
        for (int number = 1; number <= 12; number++) {
            due("reciprocal(" + number + ")", x.reciprocal(number), due[number - 1]);
            due("reciprocal(" + (number - 13) + ")", x.reciprocal(number - 13), due[number - 1]);
        }
        for (int zero : new int[] {0, 13, -13, 2147483637}) {
            Check.refused(x, "reciprocal(" + zero + ")", () -> x.reciprocal(zero));
        }
        due("reciprocal(MIN)", x.reciprocal(MIN), 7);
        for (int which = 0; which <= 6; which++) {
            Secretshares y = new Secretshares();
            y.prime(which);
            for (int number = 1; number < y.house(1); number += 1 + y.house(1) / 50) {
                due("a number times its RECIPROCAL", y.reckon(number, y.reciprocal(number), 2), 1);
            }
        }
    }

    private static void promise06() {
        Secretshares x = new Secretshares();
        int[][] rows = {{2, 10, 10}, {2, 0, 1}, {0, 0, 1}, {13, 0, 1}, {0, 5, 0}, {0, MAX, 0}, {2, -1, 7}, {2, 1, 2},
            {-1, 3, 12}, {2, MAX, 11}, {2, MIN, 3}, {2, -2, 10}, {1, MIN, 1}, {MIN, 3, 8}, {15, 10, 10}};
        for (int[] row : rows) {
            due("power(" + row[0] + ", " + row[1] + ")", x.power(row[0], row[1]), row[2]);
        }
        for (int zero : new int[] {0, 13, -26}) {
            Check.refused(x, "power(" + zero + ", -1)", () -> x.power(zero, -1));
            Check.refused(x, "power(" + zero + ", MIN)", () -> x.power(zero, MIN));
        }
        x.prime(6);
        due("power(2, 20)", x.power(2, 20), 48573);
        due("power(2, -1)", x.power(2, -1), 500002);
        due("power(3, p - 1)", x.power(3, 1000002), 1);
    }

    private static void promise07() {
        Secretshares x = new Secretshares();
        for (int number = 0; number < 13; number++) {
            due("sealOf(" + number + ")", x.sealOf(number), SEALS_OF_13[number]);
            due("sealOf(" + (number - 13) + ")", x.sealOf(number - 13), SEALS_OF_13[number]);
            due("sealOf(" + (number + 26) + ")", x.sealOf(number + 26), SEALS_OF_13[number]);
        }
        due("sealOf(MAX)", x.sealOf(MAX), SEALS_OF_13[10]);
        due("sealOf(MIN)", x.sealOf(MIN), SEALS_OF_13[2]);
        x.prime(6);
        due("sealOf(0)", x.sealOf(0), 1);
        due("sealOf(4)", x.sealOf(4), 33362176);
        due("sealOf(5)", x.sealOf(5), 15517746);
        due("sealOf(p)", x.sealOf(1000003), 1);
    }

    // ---- weights

    private static void promise08() {
        Secretshares x = made();
        due("weight of one of two", x.weight(3, 1, 0), 2);
        due("weight of the other one", x.weight(3, 2, 0), 12);
        due("weight of one of three", x.weight(0b1010001, 5, 0), 4);
        due("weight of one alone", x.weight(64, 7, MIN), 1);
        due("weight at the own place", x.weight(127, 3, 3), 1);
        due("weight at the place of another one", x.weight(127, 3, 6), 0);
        due("weight at the own place, MOD p", x.weight(127, 3, 3 - 26), 1);
        due("weight at a place far off", x.weight(3, 1, MIN), 0);
        due("weight at a place far off", x.weight(3, 1, MAX), 5);
        Check.refused(x, "weight of another one", () -> x.weight(127 - 8, 4, 0));
        Check.refused(x, "weight of another one", () -> x.weight(1, 7, 7));
        noHolder("weight()", x, holder -> x.weight(127, holder, 0));
        noHolder("weight() without a SET", x, holder -> x.weight(128, holder, 0));
        noSet("weight()", x, set -> x.weight(set, 1, 0));
        x.prime(0);
        due("weight of all four", x.weight(15, 4, 0), 4);
        Check.noIndex(x, "weight of the holder 5 of 4", () -> x.weight(15, 5, 0));
        Check.noArgument(x, "weight of a set of 5 of 4", () -> x.weight(16, 1, 0));
        x.prime(1);
        due("weight of the holder 6 of 6", x.weight(32, 6, 0), 1);
        Check.noIndex(x, "weight of the holder 7 of 6", () -> x.weight(63, 7, 0));
        Check.noArgument(x, "weight of a set of 7 of 6", () -> x.weight(64, 1, 0));
    }

    private static void promise09() {
        Secretshares x = made();
        noSet("weights()", x, set -> x.weights(set, 0));
        for (int which = 0; which <= 6; which++) {
            x.prime(which);
            Secretshares y = new Secretshares();
            y.prime(which);
            int most = (1 << x.house(4)) - 1;
            for (int set = 1; set <= most; set += 6) {
                for (int place : new int[] {0, 1, 9, -8, MIN, MAX}) {
                    due("weights(" + set + ", " + place + ")", y.weights(set, place), 1);
                }
            }
            Check.noArgument(x, "weights() of one too many", () -> x.weights(most + 1, 0));
        }
    }

    // ---- what is done with deals

    private static void promise10() {
        Secretshares x = made();
        due("hide(0, 0)", x.hide(0, 0, -2, 1, 1, 1), 7);
        due("text", x.text(0), "11 11 11 11 11 11 11");
        due("seals", x.seals(0), "44");
        due("hide(5, 1)", x.hide(5, 1, 4, 3, 9, 9), 7);
        due("text", x.text(5), "7 10 0 3 6 9 12");
        due("seals", x.seals(5), "36 46");
        due("hide(1, 2)", x.hide(1, 2, 0, 13, 1, 9), 7);
        due("text", x.text(1), "1 4 9 3 12 10 10");
        due("seals", x.seals(1), "1 1 10");
        due("DEGREE", x.ofDeal(1, 0), 2);
        due("hide(1, 3)", x.hide(1, 3, 1, 0, 0, -1), 7);
        due("text", x.text(1), "0 6 0 2 6 6 9");
        due("seals", x.seals(1), "10 1 1 16");
        x.hide(2, 3, MIN, MAX, MIN, MAX);
        due("text of great numbers", x.text(2), "11 6 8 12 0 6 12");
        due("seals of great numbers", x.seals(2), "47 15 47 15");
        noDeal("hide()", x, deal -> x.hide(deal, 1, 1, 1, 1, 1));
        noDeal("hide() with no DEGREE", x, deal -> x.hide(deal, 4, 1, 1, 1, 1));
        notWithin("hide()", x, 3, degree -> x.hide(0, degree, 1, 1, 1, 1));
        x.prime(1);
        due("hide() with 6", x.hide(0, 1, 6, 5, 0, 0), 6);
        due("text", x.text(0), "4 2 0 5 3 1");
    }

    private static void promise11() {
        Secretshares x = made();
        Check.refused(x, "pour() into an EMPTY one", () -> x.pour(5, 1, 1, 1, 1));
        noDeal("pour()", x, deal -> x.pour(deal, 1, 1, 1, 1));
        x.lose(0, 2);
        due("pour()", x.pour(0, -1, 2, 5, 5), 6);
        due("text", x.text(0), "8 - 5 10 2 7 12");
        due("seals", x.seals(0), "46 42");
        due("pour() of great numbers", x.pour(0, MIN, MAX, MIN, MAX), 6);
        due("text", x.text(0), "7 - 11 0 2 4 6");
        due("seals", x.seals(0), "42 47");
        x.hide(2, 0, 5, 0, 0, 0);
        x.pour(2, 9, 9, 9, 9);
        due("pour() with DEGREE 0", x.text(2), "1 1 1 1 1 1 1");
        x.hide(3, 3, 0, 0, 0, 0);
        x.times(3, 3, 4);
        due("pour() with DEGREE 6", x.pour(4, 0, 0, 1, 1), 7);
        due("text", x.text(4), "2 12 10 2 7 5 2");
        due("seals", x.seals(4), "");
        due("DEGREE", x.ofDeal(4, 0), 6);
        for (int holder = 1; holder <= 7; holder++) {
            x.lose(2, holder);
        }
        due("pour() without SHARES", x.pour(2, 1, 0, 0, 0), 0);
        due("seals without SHARES", x.seals(2), "47");
    }

    private static void promise12() {
        Secretshares x = made();
        x.lose(0, 1);
        due("plus()", x.plus(0, 1, 5), 5);
        due("text", x.text(5), "- 7 11 - 9 3 11");
        due("seals", x.seals(5), "47 24 13");
        due("DEGREE", x.ofDeal(5, 0), 2);
        due("plus(), the other way round", x.plus(1, 0, 4), 5);
        due("isSame", x.isSame(4, 5), true);
        due("seals", x.seals(4), "47 24 13");
        due("plus() into the second one", x.plus(0, 1, 1), 5);
        due("isSame", x.isSame(1, 5), true);
        due("plus() of one with itself", x.plus(0, 0, 0), 6);
        due("text", x.text(0), "- 7 0 6 12 5 11");
        due("seals", x.seals(0), "24 49");
        x.times(0, 0, 3);
        due("plus() without SEALS", x.plus(3, 0, 2), 6);
        due("seals", x.seals(2), "");
        due("plus() without SEALS", x.plus(0, 3, 2), 6);
        due("seals", x.seals(2), "");
        x.drop(4);
        Check.refused(x, "plus() of an EMPTY one", () -> x.plus(4, 0, 0));
        Check.refused(x, "plus() of an EMPTY one", () -> x.plus(0, 4, 0));
        Check.refused(x, "plus() of EMPTY ones", () -> x.plus(4, 4, 0));
        noDealOfThree("plus()", x, x::plus);
    }

    interface OfThree {
        int answer(int first, int second, int to);
    }

    private static void noDealOfThree(String call, Secretshares x, OfThree made) {
        noDeal(call, x, deal -> made.answer(deal, 0, 0));
        noDeal(call, x, deal -> made.answer(0, deal, 0));
        noDeal(call, x, deal -> made.answer(0, 0, deal));
        noDeal(call + " of an EMPTY one", x, deal -> made.answer(4, 4, deal));
    }

    private static void promise13() {
        Secretshares x = made();
        due("less()", x.less(0, 1, 5), 6);
        due("text", x.text(5), "10 0 2 - 3 2 0");
        due("seals", x.seals(5), "49 44 49");
        due("DEGREE", x.ofDeal(5, 0), 2);
        due("less(), the other way round", x.less(1, 0, 4), 6);
        due("text", x.text(4), "3 0 11 - 10 11 0");
        due("seals", x.seals(4), "13 47 13");
        due("less() into the first one", x.less(0, 1, 0), 6);
        due("isSame", x.isSame(0, 5), true);
        due("less() into the second one", x.less(1, 1, 1), 6);
        due("text", x.text(1), "0 0 0 - 0 0 0");
        due("seals", x.seals(1), "1 1 1");
        x.times(0, 0, 3);
        due("less() without SEALS", x.less(3, 0, 2), 6);
        due("seals", x.seals(2), "");
        x.drop(4);
        Check.refused(x, "less() of an EMPTY one", () -> x.less(4, 0, 0));
        Check.refused(x, "less() of an EMPTY one", () -> x.less(0, 4, 0));
        noDealOfThree("less()", x, x::less);
    }

    private static void promise14() {
        Secretshares x = made();
        due("times()", x.times(0, 1, 5), 6);
        due("text", x.text(5), "5 9 0 - 5 11 1");
        due("seals", x.seals(5), "");
        due("DEGREE", x.ofDeal(5, 0), 3);
        due("times() to 6", x.times(5, 5, 5), 6);
        due("DEGREE", x.ofDeal(5, 0), 6);
        due("text", x.text(5), "12 3 0 - 12 4 1");
        x.hide(2, 0, 2, 0, 0, 0);
        due("times() by DEGREE 0", x.times(2, 5, 2), 6);
        due("text", x.text(2), "11 6 0 - 11 8 2");
        due("DEGREE", x.ofDeal(2, 0), 6);
        Check.refused(x, "times() to 7", () -> x.times(5, 0, 5));
        Check.refused(x, "times() to 8", () -> x.times(1, 5, 5));
        Check.refused(x, "times() of an EMPTY one", () -> x.times(4, 0, 0));
        Check.refused(x, "times() of an EMPTY one", () -> x.times(0, 4, 0));
        noDealOfThree("times()", x, x::times);
        x.prime(6);
        x.hide(0, 0, -1, 0, 0, 0);
        x.times(0, 0, 0);
        due("text", x.text(0), "1 1 1 1 1 1 1");
    }

    private static void promise15() {
        Secretshares x = made();
        due("scale()", x.scale(1, -2, 1), 6);
        due("text", x.text(1), "6 6 4 - 7 12 2");
        due("seals", x.seals(1), "36 46 16");
        due("DEGREE", x.ofDeal(1, 0), 2);
        due("scale() by 0", x.scale(0, 13, 5), 7);
        due("text", x.text(5), "0 0 0 0 0 0 0");
        due("seals", x.seals(5), "1 1");
        due("scale() by MIN", x.scale(0, MIN, 4), 7);
        due("text", x.text(4), "1 7 0 6 12 5 11");
        due("seals", x.seals(4), "24 49");
        x.times(0, 0, 3);
        due("scale() without SEALS", x.scale(3, 2, 2), 7);
        due("text", x.text(2), "7 5 0 5 7 6 2");
        due("seals", x.seals(2), "");
        x.drop(4);
        Check.refused(x, "scale() of an EMPTY one", () -> x.scale(4, 2, 0));
        noDeal("scale()", x, deal -> x.scale(deal, 1, 0));
        noDeal("scale()", x, deal -> x.scale(0, 1, deal));
        noDeal("scale() of an EMPTY one", x, deal -> x.scale(4, 1, deal));
    }

    private static void promise16() {
        Secretshares x = made();
        due("handOn()", x.handOn(0, 3, 5, 2, 3, 5), 7);
        // c(0) = 4; c(k) = 2 * (3 + 5k) - (6 + 5k) = 5k: 5 and 10
        due("text", x.text(5), "6 2 5 2 6 4 9");
        due("seals", x.seals(5), "36 42 15");
        due("DEGREE", x.ofDeal(5, 0), 2);
        due("handOn() to one that was there", x.handOn(1, 7, 0, 0, 9, 9), 7);
        due("text", x.text(0), "11 11 11 11 11 11 11");
        due("seals", x.seals(0), "44");
        due("handOn() to the same one", x.handOn(1, 7, 1, 1, MIN, MAX), 7);
        // the WEIGHTS at 0 of 1, 2, 3 are 3, -3, 1: a falls out, and b = 10 stays
        due("text", x.text(1), "8 5 2 12 9 6 3");
        x.give(1, 3, 0);
        due("handOn() of a SET that does not AGREE", x.handOn(1, 7, 4, 1, 0, 1), 7);
        due("text", x.text(4), "10 11 12 0 1 2 3");
        x.hide(2, 3, 1, 2, 3, 4);
        Check.refused(x, "handOn() of too few", () -> x.handOn(2, 7, 2, 2, 1, 1));
        Check.refused(x, "handOn() of EMPTY ones", () -> x.handOn(3, 127, 2, 2, 1, 1));
        x.lose(2, 7);
        Check.refused(x, "handOn() of some who are not THERE", () -> x.handOn(2, 127, 2, 2, 1, 1));
        noDeal("handOn()", x, deal -> x.handOn(deal, 0, 0, 4, 1, 1));
        noDeal("handOn()", x, deal -> x.handOn(0, 0, deal, 4, 1, 1));
        noSet("handOn()", x, set -> x.handOn(3, set, 0, 1, 1, 1));
        notWithin("handOn()", x, 3, degree -> x.handOn(3, 1, 0, degree, 1, 1));
        x.prime(0);
        x.hide(0, 1, 1, 1, 1, 1);
        due("handOn() with 4", x.handOn(0, 12, 0, 3, 1, 2), 4);
        due("text", x.text(0), "3 4 0 2");
    }

    private static void promise17() {
        Secretshares x = made();
        due("lose()", x.lose(0, 7), 12);
        due("text", x.text(0), "7 10 0 3 6 9 -");
        due("lose() of a SHARE 0", x.lose(0, 3), 0);
        due("seals", x.seals(0), "36 46");
        Check.refused(x, "lose() again", () -> x.lose(0, 3));
        Check.refused(x, "lose() of an EMPTY one", () -> x.lose(5, 1));
        for (int holder : new int[] {1, 2, 4, 5, 6}) {
            x.lose(0, holder);
        }
        due("text", x.text(0), "- - - - - - -");
        due("not EMPTY", x.ofDeal(0, 0), 1);
        noDeal("lose()", x, deal -> x.lose(deal, 1));
        noHolder("lose()", x, holder -> x.lose(5, holder));
        x.prime(0);
        x.hide(0, 0, 1, 0, 0, 0);
        Check.noIndex(x, "lose() of the holder 5 of 4", () -> x.lose(0, 5));
    }

    private static void promise18() {
        Secretshares x = made();
        due("give()", x.give(0, 1, -1), 7);
        due("give()", x.give(0, 3, 13), 0);
        due("give()", x.give(1, 4, MAX), -1);
        due("give()", x.give(1, 4, MIN), 10);
        due("text", x.text(0), "12 10 0 3 6 9 12");
        due("text", x.text(1), "10 10 11 2 3 7 12");
        due("seals", x.seals(0), "36 46");
        Check.refused(x, "give() in an EMPTY one", () -> x.give(5, 1, 3));
        noDeal("give()", x, deal -> x.give(deal, 1, 1));
        noHolder("give()", x, holder -> x.give(5, holder, 1));
        x.prime(1);
        Check.noIndex(x, "give() to the holder 7 of 6", () -> x.give(0, 7, 1));
    }

    private static void promise19() {
        Secretshares x = made();
        due("regain() of one without", x.regain(1, 4, 0b1110000), 0);
        x.give(0, 5, 0);
        due("regain() by a SET with the HOLDER", x.regain(0, 5, 127), 0);
        due("regain() of a wrong one", x.regain(0, 5, 3), 6);
        due("regain() by a wrong SET", x.give(0, 1, 8) + x.regain(0, 2, 5), 7 + 4);
        due("text", x.text(0), "8 4 0 3 6 9 12");
        due("seals", x.seals(0), "36 46");
        Check.refused(x, "regain() by too few", () -> x.regain(0, 2, 2));
        Check.refused(x, "regain() by too few", () -> x.regain(1, 2, 3));
        x.lose(1, 2);
        Check.refused(x, "regain() by some who are not THERE", () -> x.regain(1, 2, 127));
        Check.refused(x, "regain() in an EMPTY one", () -> x.regain(5, 1, 127));
        noDeal("regain()", x, deal -> x.regain(deal, 0, 0));
        noHolder("regain()", x, holder -> x.regain(5, holder, 0));
        noSet("regain()", x, set -> x.regain(5, 1, set));
    }

    private static void promise20() {
        Secretshares x = made();
        due("mend(), as the DEAL AGREES", x.mend(0), 0);
        due("text", x.text(0), "7 10 0 3 6 9 12");
        x.give(0, 4, 5);
        due("mend()", x.mend(0), 4);
        due("text", x.text(0), "7 10 0 3 6 9 12");
        due("seals", x.seals(0), "36 46");
        x.give(0, 1, 8);
        due("mend() of the first one", x.mend(0), 1);
        due("text", x.text(0), "7 10 0 3 6 9 12");
        x.give(1, 7, 0);
        x.lose(1, 6);
        due("mend() with DEGREE + 3", x.mend(1), 7);
        due("text", x.text(1), "10 10 11 - 3 - 12");
        x.give(1, 7, 0);
        x.lose(1, 5);
        Check.refused(x, "mend() with DEGREE + 2", () -> x.mend(1));
        x.lose(1, 3);
        due("mend() with DEGREE + 1", x.mend(1), 0);
        x.give(0, 1, 0);
        x.give(0, 2, 0);
        Check.refused(x, "mend() of two", () -> x.mend(0));
        Check.refused(x, "mend() of an EMPTY one", () -> x.mend(5));
        noDeal("mend()", x, x::mend);
    }

    private static void promise21() {
        Secretshares x = made();
        due("copy()", x.copy(1, 0), 6);
        due("text", x.text(0), "10 10 11 - 3 7 12");
        due("seals", x.seals(0), "44 42 13");
        due("DEGREE", x.ofDeal(0, 0), 2);
        x.give(0, 1, 0);
        due("the other one", x.text(1), "10 10 11 - 3 7 12");
        x.pour(0, 1, 0, 0, 0);
        due("the other one", x.seals(1), "44 42 13");
        String before = Check.allOf(x);
        due("copy() into itself", x.copy(1, 1), 6);
        due("what is there behind it", Check.allOf(x), before);
        x.times(1, 1, 4);
        due("copy() without SEALS", x.copy(4, 1), 6);
        due("seals", x.seals(1), "");
        due("copy() of an EMPTY one", x.copy(5, 0), 0);
        due("EMPTY", x.ofDeal(0, 0), -1);
        due("EMPTY", x.seals(0), "");
        noDeal("copy()", x, deal -> x.copy(deal, 0));
        noDeal("copy()", x, deal -> x.copy(0, deal));
    }

    private static void promise22() {
        Secretshares x = made();
        due("drop()", x.drop(1), 6);
        due("EMPTY", x.ofDeal(1, 0), -1);
        due("EMPTY", x.text(1), "");
        due("EMPTY", x.seals(1), "");
        due("EMPTY", x.share(1, 1), -1);
        due("DEALS", x.house(5), 1);
        due("drop() again", x.drop(1), 0);
        due("the other one", x.text(0), "7 10 0 3 6 9 12");
        noDeal("drop()", x, x::drop);
    }

    private static void promise23() {
        Secretshares x = new Secretshares();
        for (int times = 1; times <= 500; times++) {
            due("knock()", x.knock(), times);
        }
        due("knocks", x.house(6), 500);
    }

    // ---- what is asked of deals

    private static void promise24() {
        Secretshares x = made();
        int[] due = {10, 10, 11, -1, 3, 7, 12};
        for (int holder = 1; holder <= 7; holder++) {
            due("share(1, " + holder + ")", x.share(1, holder), due[holder - 1]);
            due("share(5, " + holder + ")", x.share(5, holder), -1);
        }
        noDeal("share()", x, deal -> x.share(deal, 1));
        noHolder("share()", x, holder -> x.share(5, holder));
        x.prime(0);
        Check.noIndex(x, "share() of the holder 5 of 4", () -> x.share(0, 5));
    }

    private static void promise25() {
        Secretshares x = made();
        ofDealIs(x, 1, 2, 6, 0b1110111, 1, 1, 11);
        ofDealIs(x, 5, -1, 0, 0, 0, 0, -1);
        x.give(0, 1, 8);
        ofDealIs(x, 0, 1, 7, 127, 1, 0, 6);
        x.hide(2, 0, 9, 0, 0, 0);
        ofDealIs(x, 2, 0, 7, 127, 1, 1, 9);
        x.lose(0, 1);
        x.give(0, 3, 1);
        // through (2, 10) and (3, 1): the slope is -9
        ofDealIs(x, 0, 1, 6, 0b1111110, 1, 0, 2);
        x.times(0, 1, 3);
        ofDealIs(x, 3, 3, 5, 0b1110110, 0, 0, x.told(3, 0b0110110, 0));
        x.times(3, 3, 4);
        ofDealIs(x, 4, 6, 5, 0b1110110, 0, 1, -1);
        for (int holder = 3; holder <= 7; holder++) {
            x.lose(0, holder);
        }
        ofDealIs(x, 0, 1, 1, 0b0000010, 1, 1, -1);
        x.lose(0, 2);
        ofDealIs(x, 0, 1, 0, 0, 1, 1, -1);
        noDeal("ofDeal()", x, deal -> x.ofDeal(deal, 6));
        notWithin("ofDeal()", x, 5, what -> x.ofDeal(5, what));
        notWithin("ofDeal()", x, 5, what -> x.ofDeal(0, what));
    }

    private static void ofDealIs(Secretshares x, int deal, int... due) {
        for (int what = 0; what < due.length; what++) {
            due("ofDeal(" + deal + ", " + what + ")", x.ofDeal(deal, what), due[what]);
        }
    }

    private static void promise26() {
        Secretshares x = made();
        due("told()", x.told(0, 3, 0), 4);
        due("told()", x.told(0, 3, 7), 12);
        due("told()", x.told(0, 127, -1), 1);
        due("told() far off", x.told(0, 24, MAX), 8);
        due("told() far off", x.told(0, 24, MIN), 10);
        due("told() by too few", x.told(0, 64, 1), 12);
        due("told() by too few", x.told(1, 3, 0), 10);
        Check.refused(x, "told() by some who are not THERE", () -> x.told(1, 127, 1));
        Check.refused(x, "told() in an EMPTY one", () -> x.told(5, 1, 1));
        noDeal("told()", x, deal -> x.told(deal, 0, 1));
        noSet("told()", x, set -> x.told(5, set, 1));
        x.prime(6);
        x.hide(0, 3, 123456, 654321, 999999, 1000002);
        due("told() with 1000003", x.told(0, 15, 0), 123456);
        due("told() with 1000003", x.told(0, 127, 7), x.share(0, 7));
    }

    private static void promise27() {
        Secretshares x = made();
        due("open()", x.open(0, 3), 4);
        due("open()", x.open(0, 127), 4);
        due("open()", x.open(1, 7), 11);
        x.give(0, 1, 8);
        due("open() with a wrong one", x.open(0, 3), 6);
        Check.refused(x, "open() by too few", () -> x.open(0, 2));
        Check.refused(x, "open() by too few", () -> x.open(1, 3));
        Check.refused(x, "open() by some who are not THERE", () -> x.open(1, 127));
        Check.refused(x, "open() of an EMPTY one", () -> x.open(5, 127));
        noDeal("open()", x, deal -> x.open(deal, 0));
        noSet("open()", x, set -> x.open(5, set));
        x.hide(2, 0, 9, 0, 0, 0);
        due("open() by one, with DEGREE 0", x.open(2, 64), 9);
    }

    private static void promise28() {
        Secretshares x = made();
        int[] due = {11, 5, 7, 0, 0, 0, 0};
        for (int k = 0; k <= 6; k++) {
            int at = k;
            due("coefficient() of three", x.coefficient(1, 7, k), due[k]);
            due("coefficient() of six", x.coefficient(1, 0b1110111, k), due[k]);
            due("coefficient() of one", x.coefficient(0, 1, k), k == 0 ? 7 : 0);
            Check.refused(x, "coefficient() of some who are not THERE", () -> x.coefficient(1, 127, at));
            Check.refused(x, "coefficient() in an EMPTY one", () -> x.coefficient(5, 1, at));
        }
        x.hide(2, 0, 0, 0, 0, 0);
        x.give(2, 7, 6);
        // 6 * (x-1)...(x-6) / 6!, and 6! is 5, so 6 / 5 = 9; (x-1)...(x-6) has -21 behind its 1
        due("coefficient 6 of seven", x.coefficient(2, 127, 6), 9);
        due("coefficient 5 of seven", x.coefficient(2, 127, 5), 6);
        noDeal("coefficient()", x, deal -> x.coefficient(deal, 0, 7));
        noSet("coefficient()", x, set -> x.coefficient(5, set, 0));
        notWithin("coefficient()", x, 6, k -> x.coefficient(5, 1, k));
        notWithin("coefficient()", x, 6, k -> x.coefficient(0, 1, k));
    }

    private static void promise29() {
        Secretshares x = made();
        due("degreeBy()", x.degreeBy(1, 0b1110111), 2);
        due("degreeBy()", x.degreeBy(1, 7), 2);
        due("degreeBy() of two alike", x.degreeBy(1, 3), 0);
        due("degreeBy() of one", x.degreeBy(1, 64), 0);
        due("degreeBy() of a SHARE 0", x.degreeBy(0, 4), -1);
        x.give(0, 1, 0);
        due("degreeBy()", x.degreeBy(0, 127), 6);
        x.hide(2, 3, 0, 0, 0, 0);
        due("degreeBy() of none but 0", x.degreeBy(2, 127), -1);
        Check.refused(x, "degreeBy() of some who are not THERE", () -> x.degreeBy(1, 127));
        Check.refused(x, "degreeBy() in an EMPTY one", () -> x.degreeBy(5, 1));
        noDeal("degreeBy()", x, deal -> x.degreeBy(deal, 0));
        noSet("degreeBy()", x, set -> x.degreeBy(5, set));
    }

    private static void promise30() {
        Secretshares x = made();
        due("agrees()", x.agrees(0, 127), 1);
        x.give(0, 1, 0);
        due("agrees() with a wrong one", x.agrees(0, 127), 0);
        due("agrees() with a wrong one", x.agrees(0, 7), 0);
        due("agrees() of DEGREE + 1", x.agrees(0, 3), 1);
        due("agrees() of one", x.agrees(0, 1), 1);
        due("agrees() without the wrong one", x.agrees(0, 126), 1);
        Check.refused(x, "agrees() of some who are not THERE", () -> x.agrees(1, 127));
        Check.refused(x, "agrees() in an EMPTY one", () -> x.agrees(5, 1));
        noDeal("agrees()", x, deal -> x.agrees(deal, 0));
        noSet("agrees()", x, set -> x.agrees(5, set));
        x.hide(2, 0, 3, 0, 0, 0);
        due("agrees() with DEGREE 0", x.agrees(2, 127), 1);
        x.give(2, 7, 4);
        due("agrees() with DEGREE 0", x.agrees(2, 65), 0);
    }

    private static void promise31() {
        Secretshares x = made();
        due("suspects(), as the DEAL AGREES", x.suspects(0), 127);
        due("suspects(), as the DEAL AGREES", x.suspects(1), 0b1110111);
        x.give(0, 5, 0);
        due("suspects() of one", x.suspects(0), 16);
        x.give(0, 6, 0);
        due("suspects() of two", x.suspects(0), 0);
        for (int holder = 1; holder <= 4; holder++) {
            x.lose(0, holder);
        }
        due("suspects() of DEGREE + 2", x.suspects(0), 0b1110000);
        x.lose(0, 5);
        x.lose(0, 6);
        due("suspects() of one alone", x.suspects(0), 64);
        x.lose(0, 7);
        due("suspects() of nobody", x.suspects(0), 0);
        Check.refused(x, "suspects() of an EMPTY one", () -> x.suspects(5));
        noDeal("suspects()", x, x::suspects);
    }

    private static void promise32() {
        Secretshares x = made();
        due("wrong(), as the DEAL AGREES", x.wrong(0), 0);
        for (int holder = 1; holder <= 7; holder++) {
            int before = x.share(0, holder);
            x.give(0, holder, before + 1);
            due("wrong() of one", x.wrong(0), holder);
            x.give(0, holder, before);
        }
        x.give(0, 1, 0);
        x.give(0, 2, 0);
        Check.refused(x, "wrong() of two", () -> x.wrong(0));
        x.lose(0, 1);
        for (int holder = 7; holder >= 6; holder--) {
            x.lose(0, holder);
        }
        due("wrong() with DEGREE + 3", x.wrong(0), 2);
        x.lose(0, 5);
        Check.refused(x, "wrong() with DEGREE + 2", () -> x.wrong(0));
        x.lose(0, 4);
        due("wrong() with DEGREE + 1", x.wrong(0), 0);
        x.lose(0, 3);
        x.lose(0, 2);
        due("wrong() of nobody", x.wrong(0), 0);
        Check.refused(x, "wrong() of an EMPTY one", () -> x.wrong(5));
        noDeal("wrong()", x, x::wrong);
    }

    private static void promise33() {
        Secretshares x = made();
        Check.refused(x, "ways(), as 169 is above 125", () -> x.ways(1, 1, 0));
        Check.refused(x, "ways(), as 169 is above 125", () -> x.ways(1, 7, 11));
        due("ways() with DEGREE 1", x.ways(0, 1, 0), 1);
        due("ways() with DEGREE 1", x.ways(0, 3, 4 - 13), 1);
        due("ways() with DEGREE 1", x.ways(0, 3, 5), 0);
        x.give(0, 3, 1);
        due("ways() with a wrong one", x.ways(0, 7, x.told(0, 7, 0)), 0);
        Check.refused(x, "ways() of some who are not THERE", () -> x.ways(1, 8, 0));
        Check.refused(x, "ways() in an EMPTY one", () -> x.ways(5, 1, 0));
        noDeal("ways()", x, deal -> x.ways(deal, 0, 0));
        noSet("ways()", x, set -> x.ways(1, set, 0));
        waysByPrime(x);
    }

    private static void waysByPrime(Secretshares x) {
        // p raised to 1, 2 and 3: by WHICH, the greatest DEGREE whose POLYS are not too many
        int[] most = {3, 2, 2, 1, 1, 0, 0};
        for (int which = 0; which <= 6; which++) {
            x.prime(which);
            for (int degree = 0; degree <= 3; degree++) {
                x.hide(0, degree, 1, 1, 1, 1);
                int due = -9;
                if (degree <= most[which]) {
                    due = degree == 0 ? 1 : (int) Math.pow(x.house(1), degree - 1);
                }
                due("ways() with WHICH " + which + ", DEGREE " + degree, x.ways(0, 1, 1), due);
            }
        }
        x.prime(0);
        x.hide(0, 3, 1, 2, 3, 4);
        due("ways(0, 4, 2)", x.ways(0, 4, 2), 25);
        due("ways(0, 6, -2)", x.ways(0, 6, -2), 5);
        due("ways(0, 15, 1)", x.ways(0, 15, MIN + 4), 1);
        x.times(0, 0, 1);
        Check.refused(x, "ways() with DEGREE 6", () -> x.ways(1, 15, 1));
    }

    private static void promise34() {
        Secretshares x = made();
        due("total()", x.total(0, 127), 47);
        due("total()", x.total(0, 0b1000010), 22);
        due("total() of one", x.total(0, 4), 0);
        Check.refused(x, "total() of some who are not THERE", () -> x.total(1, 127));
        Check.refused(x, "total() in an EMPTY one", () -> x.total(5, 1));
        noDeal("total()", x, deal -> x.total(deal, 0));
        noSet("total()", x, set -> x.total(5, set));
        x.prime(6);
        x.hide(0, 0, -1, 0, 0, 0);
        due("total() of great ones", x.total(0, 127), 7000014);
    }

    private static void promise35() {
        Secretshares x = made();
        int[] due = {44, 42, 13, -1, -1, -1, -1};
        for (int k = 0; k <= 6; k++) {
            due("seal(1, " + k + ")", x.seal(1, k), due[k]);
            due("seal(5, " + k + ")", x.seal(5, k), -1);
        }
        x.hide(2, 3, 1, 2, 3, 4);
        due("seal(2, 3)", x.seal(2, 3), 36);
        x.hide(2, 0, 1, 2, 3, 4);
        due("seal(2, 3) with a less DEGREE", x.seal(2, 3), -1);
        x.times(1, 1, 1);
        due("seal() without SEALS", x.seal(1, 0), -1);
        noDeal("seal()", x, deal -> x.seal(deal, 7));
        notWithin("seal()", x, 6, k -> x.seal(5, k));
        notWithin("seal()", x, 6, k -> x.seal(0, k));
    }

    private static void promise36() {
        Secretshares x = made();
        for (int which = 0; which <= 6; which++) {
            x.prime(which);
            x.hide(0, 3, 1, -2, 3, -4);
            for (int holder = 1; holder <= x.house(4); holder++) {
                due("fits()", x.fits(0, holder), 1);
                int before = x.share(0, holder);
                x.give(0, holder, before - 1);
                due("fits() of a wrong one", x.fits(0, holder), 0);
                x.give(0, holder, before);
            }
        }
        x.prime(3);
        x.hide(0, 1, 4, 3, 0, 0);
        x.hide(2, 0, 4, 0, 0, 0);
        due("fits() with DEGREE 0", x.fits(2, 7), 1);
        x.lose(0, 1);
        Check.refused(x, "fits() without a SHARE", () -> x.fits(0, 1));
        x.times(0, 0, 1);
        Check.refused(x, "fits() without SEALS", () -> x.fits(1, 2));
        Check.refused(x, "fits() in an EMPTY one", () -> x.fits(5, 2));
        noDeal("fits()", x, deal -> x.fits(deal, 1));
        noHolder("fits()", x, holder -> x.fits(5, holder));
    }

    private static void promise37() {
        Secretshares x = made();
        due("order(), less", x.order(0, 1, 1), -1);
        due("order(), the same", x.order(0, 1, 2), 0);
        due("order(), less", x.order(0, 1, 3), -1);
        due("order(), greater", x.order(0, 1, 5), 1);
        due("order() of one with itself", x.order(0, 0, 3), 0);
        Check.refused(x, "order() without the second one", () -> x.order(0, 1, 4));
        Check.refused(x, "order() without the first one", () -> x.order(1, 0, 4));
        Check.refused(x, "order() with an EMPTY one", () -> x.order(0, 5, 1));
        Check.refused(x, "order() with an EMPTY one", () -> x.order(5, 0, 1));
        noDeal("order()", x, deal -> x.order(deal, 5, 1));
        noDeal("order()", x, deal -> x.order(5, deal, 1));
        noHolder("order()", x, holder -> x.order(5, 5, holder));
    }

    private static void promise38() {
        Secretshares x = made();
        due("the least one", x.most(0, true), 3);
        due("the greatest one", x.most(0, false), 7);
        x.give(0, 7, 0);
        x.give(0, 6, 10);
        due("the least one of several", x.most(0, true), 3);
        due("the greatest one of several", x.most(0, false), 2);
        x.lose(0, 2);
        x.lose(0, 3);
        due("the least one", x.most(0, true), 7);
        due("the greatest one", x.most(0, false), 6);
        x.give(0, 1, -1);
        due("the greatest one, the first HOLDER", x.most(0, false), 1);
        x.give(0, 1, 0);
        due("the least one, the first HOLDER", x.most(0, true), 1);
        for (int holder : new int[] {1, 4, 5, 6}) {
            x.lose(0, holder);
        }
        due("the least one of one", x.most(0, true), 7);
        due("the greatest one of one", x.most(0, false), 7);
        x.lose(0, 7);
        due("the least one of none", x.most(0, true), 0);
        due("the greatest one of none", x.most(0, false), 0);
        Check.refused(x, "most() of an EMPTY one", () -> x.most(5, true));
        Check.refused(x, "most() of an EMPTY one", () -> x.most(5, false));
        noDeal("most()", x, deal -> x.most(deal, true));
    }

    private static void promise39() {
        Secretshares x = made();
        due("text()", x.text(1), "10 10 11 - 3 7 12");
        x.lose(1, 1);
        x.lose(1, 7);
        due("text()", x.text(1), "- 10 11 - 3 7 -");
        due("text() of an EMPTY one", x.text(5), "");
        noDeal("text()", x, x::text);
        x.prime(6);
        x.hide(0, 0, -1, 0, 0, 0);
        x.lose(0, 2);
        due("text() of great ones", x.text(0), "1000002 - 1000002 1000002 1000002 1000002 1000002");
        x.prime(0);
        x.hide(0, 1, 0, 1, 0, 0);
        x.lose(0, 4);
        due("text() of four", x.text(0), "1 2 3 -");
    }

    private static void promise40() {
        Secretshares x = made();
        due("seals()", x.seals(1), "44 42 13");
        due("seals()", x.seals(0), "36 46");
        x.hide(0, 0, 0, 0, 0, 0);
        due("seals() of DEGREE 0", x.seals(0), "1");
        due("seals() of an EMPTY one", x.seals(5), "");
        x.times(1, 1, 1);
        due("seals() without SEALS", x.seals(1), "");
        noDeal("seals()", x, x::seals);
    }

    private static void promise41() {
        Secretshares x = made();
        due("isSame() of one with itself", x.isSame(0, 0), true);
        due("isSame()", x.isSame(0, 1), false);
        due("isSame() of EMPTY ones", x.isSame(4, 5), true);
        due("isSame() with an EMPTY one", x.isSame(0, 5), false);
        due("isSame() with an EMPTY one", x.isSame(5, 0), false);
        x.hide(2, 2, 4, 3, 0, 0);
        due("isSame() with another DEGREE", x.isSame(0, 2), false);
        x.copy(0, 3);
        due("isSame()", x.isSame(0, 3), true);
        x.lose(3, 7);
        due("isSame() with one SHARE less", x.isSame(0, 3), false);
        due("isSame() with one SHARE more", x.isSame(3, 0), false);
        x.give(3, 7, 11);
        due("isSame() with another SHARE", x.isSame(0, 3), false);
        x.give(3, 7, 12);
        due("isSame()", x.isSame(0, 3), true);
        x.hide(2, 1, 0, 0, 0, 0);
        x.hide(4, 0, 0, 0, 0, 0);
        x.times(0, 4, 4);
        due("isSame() whatever the SEALS", x.isSame(2, 4), true);
        for (int holder = 1; holder <= 7; holder++) {
            x.lose(4, holder);
        }
        due("isSame(), nobody and EMPTY", x.isSame(4, 5), false);
        x.hide(4, 0, 0, 0, 0, 0);
        for (int holder = 1; holder <= 7; holder++) {
            x.give(3, holder, x.share(0, holder) + 1);
            due("isSame() with another SHARE", x.isSame(0, 3), false);
            x.regain(3, holder, 127 - (1 << (holder - 1)));
            due("isSame()", x.isSame(0, 3), true);
            x.lose(4, holder);
        }
        due("isSame(), nobody with DEGREE 0, and EMPTY", x.isSame(4, 5), false);
        due("isSame(), EMPTY, and nobody with DEGREE 0", x.isSame(5, 4), false);
        noDeal("isSame()", x, deal -> x.isSame(deal, 0));
        noDeal("isSame()", x, deal -> x.isSame(5, deal));
    }

    // ---- all of it

    private static void promise42() {
        Secretshares x = made();
        int[] due = {3, 13, 53, 10, 7, 2, 1};
        for (int what = 0; what <= 6; what++) {
            due("house(" + what + ")", x.house(what), due[what]);
        }
        x.hide(5, 0, 0, 0, 0, 0);
        x.drop(0);
        x.knock();
        due("DEALS", x.house(5), 2);
        due("knocks", x.house(6), 2);
        notWithin("house()", x, 6, x::house);
    }

    private static void promise43() {
        Secretshares x = made();
        due("isSound() of a new one", new Secretshares().isSound(), true);
        due("isSound()", x.isSound(), true);
        x.give(0, 1, 0);
        due("isSound() with a wrong one", x.isSound(), true);
        x.lose(0, 1);
        due("isSound() with a lost one", x.isSound(), true);
        x.less(0, 1, 0);
        due("isSound() behind less()", x.isSound(), true);
        x.times(0, 1, 0);
        due("isSound() without SEALS", x.isSound(), true);
        for (int which = 0; which <= 6; which++) {
            x.prime(which);
            due("isSound() with WHICH " + which, x.isSound(), true);
            x.hide(0, 3, -1, 0, 5, MAX);
            due("isSound() with WHICH " + which, x.isSound(), true);
        }
    }

    private static void promise44() {
        Secretshares x = new Secretshares();
        due("digest() of a new one", x.digest(), byHand(x));
        x.hide(0, 3, 1, 2, 3, 4);
        x.hide(5, 1, 9, 8, 7, 6);
        x.lose(5, 3);
        x.times(5, 5, 2);
        due("digest()", x.digest(), byHand(x));
        x.prime(0);
        x.hide(1, 2, 4, 3, 2, 1);
        due("digest() with four", x.digest(), byHand(x));
    }

    private static long byHand(Secretshares x) {
        long d = 7977;
        for (int what = 0; what < 7; what++) {
            d = d * 31 + x.house(what);
        }
        for (int deal = 0; deal < 6; deal++) {
            for (int what = 0; what < 4; what++) {
                d = d * 31 + x.ofDeal(deal, what);
            }
            for (int holder = 1; holder <= x.house(4); holder++) {
                d = d * 31 + x.share(deal, holder);
            }
            for (int k = 0; k < 4; k++) {
                d = d * 31 + x.seal(deal, k);
            }
        }
        return d * 31 + (x.isSound() ? 1 : 0);
    }
}
