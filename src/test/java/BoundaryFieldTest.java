/** Boundary cases of promises 1 to 9: the new object, the field, the weights. A test for each sentence. */
public final class BoundaryFieldTest {
    private static final int MIN = Bounds.MIN;
    private static final int MAX = Bounds.MAX;
    /** MAX, MIN, MAX + MAX, MIN + MIN, MIN - MAX, MAX - MIN, MIN * MIN, MAX * MIN, MAX * MAX, each MOD p. */
    private static final int[][] FAR = {{2, 2, 4, 4, 0, 0, 4, 4, 4}, {1, 5, 2, 3, 4, 3, 4, 5, 1},
        {1, 9, 2, 7, 8, 3, 4, 9, 1}, {10, 2, 7, 4, 5, 8, 4, 7, 9}, {33, 67, 66, 33, 34, 67, 45, 90, 79},
        {32768, 32768, 65536, 65536, 0, 0, 49153, 49153, 49153},
        {477206, 522796, 954412, 45589, 45590, 954413, 837674, 639536, 883264}};
    /** Numbers that are 0 MOD 13; the last two are the farthest ones. */
    private static final int[] ZEROS = {0, 13, -13, 26, -26, 2147483637, -2147483637};

    private BoundaryFieldTest() {
    }

    public static void main(String[] args) throws IllegalAccessException {
        Bounds.run(BoundaryFieldTest.class, 1, 9);
    }

    private static Secretshares with(int which) {
        Secretshares x = new Secretshares();
        x.prime(which);
        return x;
    }

    private static void due(String call, Object got, Object want) {
        Check.due(call, got, want);
    }

    // ---- 1

    @Bounds.Says("Creates six EMPTY DEALS")
    static void promise01SixEmptyDeals() {
        Secretshares x = new Secretshares();
        due("DEALS that are not EMPTY", x.house(5), 0);
        for (int deal = 0; deal <= 5; deal++) {
            Bounds.isEmpty(x, deal);
            for (int holder = 1; holder <= 7; holder++) {
                due("SHARE", x.share(deal, holder), -1);
            }
        }
    }

    @Bounds.Says("Creates six EMPTY DEALS")
    static void promise01NoFewerAndNoMoreThanSix() {
        Bounds.isLet(Bounds::fresh, "hide() into the first one", x -> x.hide(0, 0, 1, 1, 1, 1));
        Bounds.isLet(Bounds::fresh, "hide() into the last one", x -> x.hide(5, 0, 1, 1, 1, 1));
        Bounds.throwsIndex(Bounds::fresh, "hide() behind the last one", x -> x.hide(6, 0, 1, 1, 1, 1));
        Bounds.throwsIndex(Bounds::fresh, "hide() ahead of the first one", x -> x.hide(-1, 0, 1, 1, 1, 1));
    }

    @Bounds.Says("with WHICH 3")
    static void promise01WhichIs3() {
        int[] due = {3, 13, 53, 10, 7, 0, 0};
        Secretshares x = new Secretshares();
        for (int what = 0; what <= 6; what++) {
            due("house(" + what + ")", x.house(what), due[what]);
        }
    }

    @Bounds.Says("An object is used for at most 512 calls after it has been made")
    static void promise01TheLastOf512Calls() {
        Secretshares x = new Secretshares();
        for (int call = 1; call <= 512; call++) {
            due("call " + call, x.knock(), call);
        }
        Secretshares y = new Secretshares();
        for (int call = 1; call <= 511; call++) {
            y.hide(call % 6, 3, call, MIN, MAX, call);
        }
        due("call 512", y.text(511 % 6), "7 2 0 12 10 5 8");
    }

    // ---- 2

    @Bounds.Says("Throws IllegalArgumentException if which is not 0 to 6")
    static void promise02WhichTooSmall() {
        for (Bounds.Start start : new Bounds.Start[] {Bounds::fresh, Bounds::made, Bounds::full}) {
            Bounds.throwsArgument(start, "prime(-1)", x -> x.prime(-1));
            Bounds.throwsArgument(start, "prime(MIN)", x -> x.prime(MIN));
        }
        due("prime(0)", Bounds.made().prime(0), 13);
    }

    @Bounds.Says("Throws IllegalArgumentException if which is not 0 to 6")
    static void promise02WhichTooLarge() {
        for (Bounds.Start start : new Bounds.Start[] {Bounds::fresh, Bounds::made, Bounds::full}) {
            Bounds.throwsArgument(start, "prime(7)", x -> x.prime(7));
            Bounds.throwsArgument(start, "prime(MAX)", x -> x.prime(MAX));
        }
        due("prime(6)", Bounds.made().prime(6), 13);
    }

    @Bounds.Says("Returns the PRIME p before, as that number (13 at first), not its WHICH.")
    static void promise02ThePrimeBefore() {
        Secretshares x = new Secretshares();
        due("prime() at first", x.prime(0), 13);
        for (int which = 1; which <= 6; which++) {
            due("prime(" + which + ")", x.prime(which), Bounds.FIELDS[which - 1][0]);
        }
        due("prime(6) again", x.prime(6), 1000003);
        due("prime(3)", x.prime(3), 1000003);
        due("prime(3) again", x.prime(3), 13);
    }

    @Bounds.Says("all DEALS are EMPTY")
    static void promise02EmptiesAllSix() {
        Secretshares x = Bounds.full();
        due("DEALS ahead of it", x.house(5), 6);
        x.prime(4);
        due("DEALS behind it", x.house(5), 0);
        for (int deal = 0; deal <= 5; deal++) {
            Bounds.isEmpty(x, deal);
        }
    }

    @Bounds.Says("EMPTY at first, and all of them as another PRIME is told (also if it is the same one)")
    static void promise02EmptiesWithTheSamePrimeToo() {
        Secretshares x = Bounds.full();
        due("prime(3)", x.prime(3), 13);
        due("WHICH", x.house(0), 3);
        due("DEALS behind it", x.house(5), 0);
        for (int deal = 0; deal <= 5; deal++) {
            Bounds.isEmpty(x, deal);
        }
    }

    @Bounds.Says("all DEALS are EMPTY")
    static void promise02OfEmptyDeals() {
        Secretshares x = new Secretshares();
        due("prime(1)", x.prime(1), 13);
        due("DEALS behind it", x.house(5), 0);
    }

    @Bounds.Says("(How often one knocked stays.)")
    static void promise02KnocksStay() {
        Secretshares x = Bounds.made();
        x.knock();
        for (int which = 0; which <= 6; which++) {
            x.prime(which);
            due("knocks", x.house(6), 2);
        }
        due("knock()", x.knock(), 3);
    }

    @Bounds.Says("HOLDERS are numbered from 1 to M; M is 7, or p - 1, if that is less (4 for 5, 6 for 7)")
    static void promise02HoldersByPrime() {
        for (int which = 0; which <= 6; which++) {
            int told = which;
            int m = which == 0 ? 4 : which == 1 ? 6 : 7;
            Secretshares x = with(which);
            due("M", x.house(4), m);
            due("hide()", x.hide(0, 0, 1, 0, 0, 0), m);
            due("share() of the last one", x.share(0, m), 1);
            Bounds.throwsIndex(() -> with(told), "share() behind the last one", y -> y.share(0, m + 1));
        }
    }

    @Bounds.Says("with it belong a GREAT PRIME q and a BASE g")
    static void promise02FirstAndLastField() {
        for (int which : new int[] {0, 6}) {
            Secretshares x = with(which);
            for (int what = 0; what <= 2; what++) {
                due("house(" + (what + 1) + ") with WHICH " + which, x.house(what + 1), Bounds.FIELDS[which][what]);
            }
        }
    }

    // ---- 3

    @Bounds.Says("n MOD m is that number of 0 to m - 1 from which n differs by a multiple of m")
    static void promise03RoundThePrime() {
        for (int which = 0; which <= 6; which++) {
            Secretshares x = with(which);
            int p = Bounds.FIELDS[which][0];
            int[][] rests = {{0, 0}, {1, 1}, {p - 1, p - 1}, {p, 0}, {p + 1, 1}, {2 * p - 1, p - 1}, {2 * p, 0}};
            for (int[] rest : rests) {
                due("rest(" + rest[0] + ") with " + p, x.rest(rest[0]), rest[1]);
            }
        }
    }

    @Bounds.Says("n MOD m is that number of 0 to m - 1 from which n differs by a multiple of m")
    static void promise03Below0() {
        for (int which = 0; which <= 6; which++) {
            Secretshares x = with(which);
            int p = Bounds.FIELDS[which][0];
            int[][] rests = {{-1, p - 1}, {-p + 1, 1}, {-p, 0}, {-p - 1, p - 1}, {-2 * p + 1, 1}, {-2 * p, 0}};
            for (int[] rest : rests) {
                due("rest(" + rest[0] + ") with " + p, x.rest(rest[0]), rest[1]);
            }
        }
    }

    @Bounds.Says("number: any number")
    static void promise03FarthestNumbers() {
        for (int which = 0; which <= 6; which++) {
            Secretshares x = with(which);
            due("rest(MAX) with WHICH " + which, x.rest(MAX), FAR[which][0]);
            due("rest(MIN) with WHICH " + which, x.rest(MIN), FAR[which][1]);
        }
    }

    // ---- 4

    @Bounds.Says("Throws IllegalArgumentException if how is not 0 to 3")
    static void promise04HowTooSmallOrTooLarge() {
        Bounds.upTo(3, "reckon()", (x, how) -> x.reckon(7, 9, how));
    }

    @Bounds.Says("exceptions go ahead of REFUSED")
    static void promise04ThrowsThoughTheSecondOneIs0() {
        for (int zero : ZEROS) {
            Bounds.throwsArgument(Bounds::made, "reckon(7, " + zero + ", 4)", x -> x.reckon(7, zero, 4));
            Bounds.throwsArgument(Bounds::made, "reckon(7, " + zero + ", -1)", x -> x.reckon(7, zero, -1));
        }
    }

    @Bounds.Says("REFUSED, if how is 3, and the second one is 0 MOD p.")
    static void promise04NothingTimesTheReciprocalOf0() {
        for (int zero : ZEROS) {
            for (int first : new int[] {1, 0, 13, -1, MIN, MAX}) {
                Bounds.refused(Bounds::made, "reckon(" + first + ", " + zero + ", 3)", x -> x.reckon(first, zero, 3));
            }
        }
        for (int which = 0; which <= 6; which++) {
            int told = which;
            int p = Bounds.FIELDS[which][0];
            Bounds.refused(() -> with(told), "reckon(1, p, 3)", x -> x.reckon(1, p, 3));
            Bounds.refused(() -> with(told), "reckon(1, -p, 3)", x -> x.reckon(1, -p, 3));
            Bounds.answers(() -> with(told), "reckon(1, p + 1, 3)", 1, x -> x.reckon(1, p + 1, 3));
            Bounds.answers(() -> with(told), "reckon(1, p - 1, 3)", p - 1, x -> x.reckon(1, p - 1, 3));
        }
    }

    @Bounds.Says("REFUSED, if how is 3, and the second one is 0 MOD p.")
    static void promise04NotRefusedWithAnotherHow() {
        for (int zero : ZEROS) {
            Bounds.answers(Bounds::made, "7 and " + zero, 7, x -> x.reckon(7, zero, 0));
            Bounds.answers(Bounds::made, "7 less " + zero, 7, x -> x.reckon(7, zero, 1));
            Bounds.answers(Bounds::made, "7 times " + zero, 0, x -> x.reckon(7, zero, 2));
        }
    }

    @Bounds.Says("REFUSED, if how is 3, and the second one is 0 MOD p.")
    static void promise04NotRefusedAsTheFirstOneIs0() {
        for (int zero : ZEROS) {
            Bounds.answers(Bounds::made, "reckon(" + zero + ", 5, 3)", 0, x -> x.reckon(zero, 5, 3));
        }
    }

    @Bounds.Says("Returns that MOD p")
    static void promise04RoundThePrime() {
        for (int which = 0; which <= 6; which++) {
            Secretshares x = with(which);
            int p = Bounds.FIELDS[which][0];
            due("p - 1 and 1", x.reckon(p - 1, 1, 0), 0);
            due("p - 1 and p - 1", x.reckon(p - 1, p - 1, 0), p - 2);
            due("0 less 1", x.reckon(0, 1, 1), p - 1);
            due("1 less p", x.reckon(1, p, 1), 1);
            due("p - 1 times p - 1", x.reckon(p - 1, p - 1, 2), 1);
            due("-1 times 1", x.reckon(-1, 1, 2), p - 1);
            due("-1 by -1", x.reckon(-1, -1, 3), 1);
        }
    }

    @Bounds.Says("first: any number")
    static void promise04FarthestNumbers() {
        for (int which = 0; which <= 6; which++) {
            Secretshares x = with(which);
            String with = " with WHICH " + which;
            due("MAX and MAX" + with, x.reckon(MAX, MAX, 0), FAR[which][2]);
            due("MIN and MIN" + with, x.reckon(MIN, MIN, 0), FAR[which][3]);
            due("MIN less MAX" + with, x.reckon(MIN, MAX, 1), FAR[which][4]);
            due("MAX less MIN" + with, x.reckon(MAX, MIN, 1), FAR[which][5]);
            due("MIN times MIN" + with, x.reckon(MIN, MIN, 2), FAR[which][6]);
            due("MAX times MIN" + with, x.reckon(MAX, MIN, 2), FAR[which][7]);
            due("MAX times MAX" + with, x.reckon(MAX, MAX, 2), FAR[which][8]);
            due("MAX by MAX" + with, x.reckon(MAX, MAX, 3), 1);
            due("MIN by MIN" + with, x.reckon(MIN, MIN, 3), 1);
        }
    }

    // ---- 5

    @Bounds.Says("REFUSED, if it is 0 MOD p.")
    static void promise05Of0() {
        for (int zero : ZEROS) {
            Bounds.refused(Bounds::made, "reciprocal(" + zero + ")", x -> x.reciprocal(zero));
        }
        for (int which = 0; which <= 6; which++) {
            int told = which;
            int p = Bounds.FIELDS[which][0];
            for (int times = -3; times <= 3; times++) {
                int zero = times * p;
                Bounds.refused(() -> with(told), "reciprocal(" + zero + ")", x -> x.reciprocal(zero));
            }
        }
    }

    @Bounds.Says("that one of 1 to p - 1 which, times it, is 1 MOD p")
    static void promise05OfTheLeastAndTheGreatest() {
        for (int which = 0; which <= 6; which++) {
            Secretshares x = with(which);
            int p = Bounds.FIELDS[which][0];
            for (int far : new int[] {0, p, -p}) {
                due("of 1 with " + p, x.reciprocal(far + 1), 1);
                due("of p - 1 with " + p, x.reciprocal(far + p - 1), p - 1);
                due("of 2 with " + p, x.reciprocal(far + 2), (p + 1) / 2);
                due("of p - 2 with " + p, x.reciprocal(far + p - 2), (p - 1) / 2);
            }
        }
    }

    @Bounds.Says("number: any number")
    static void promise05FarthestNumbers() {
        int[][] due = {{3, 3}, {1, 3}, {1, 5}, {4, 7}, {49, 98}, {65535, 65535}, {290431, 941458}};
        for (int which = 0; which <= 6; which++) {
            Secretshares x = with(which);
            due("reciprocal(MAX) with WHICH " + which, x.reciprocal(MAX), due[which][0]);
            due("reciprocal(MIN) with WHICH " + which, x.reciprocal(MIN), due[which][1]);
        }
    }

    // ---- 6

    @Bounds.Says("(raised to 0 it is 1, 0 too)")
    static void promise06RaisedTo0() {
        for (int number : new int[] {0, 13, -13, 1, 2, 12, -1, MIN, MAX}) {
            Bounds.answers(Bounds::made, "power(" + number + ", 0)", 1, x -> x.power(number, 0));
        }
    }

    @Bounds.Says("Returns the number raised to the exponent, MOD p")
    static void promise06ZeroRaisedToMoreThan0() {
        for (int zero : ZEROS) {
            for (int exponent : new int[] {1, 2, 12, 13, MAX}) {
                String call = "power(" + zero + ", " + exponent + ")";
                Bounds.answers(Bounds::made, call, 0, x -> x.power(zero, exponent));
            }
        }
    }

    @Bounds.Says("REFUSED, if the exponent is below 0, and the number is 0 MOD p.")
    static void promise06ZeroRaisedToLessThan0() {
        for (int zero : ZEROS) {
            for (int exponent : new int[] {-1, -2, -13, MIN + 1, MIN}) {
                String call = "power(" + zero + ", " + exponent + ")";
                Bounds.refused(Bounds::made, call, x -> x.power(zero, exponent));
            }
        }
        for (int which = 0; which <= 6; which++) {
            int told = which;
            int p = Bounds.FIELDS[which][0];
            Bounds.refused(() -> with(told), "power(p, -1)", x -> x.power(p, -1));
        }
    }

    @Bounds.Says("with an exponent below 0 its RECIPROCAL raised to that without \"-\"")
    static void promise06ExponentsBelow0() {
        int[][] rows = {{2, -1, 7}, {2, -2, 10}, {-1, -1, 12}, {-1, -2, 1}, {1, -1, 1}, {5, -3, 5}, {15, -1, 7}};
        for (int[] row : rows) {
            String call = "power(" + row[0] + ", " + row[1] + ")";
            Bounds.answers(Bounds::made, call, row[2], x -> x.power(row[0], row[1]));
        }
    }

    @Bounds.Says("exponent: any number")
    static void promise06FarthestExponents() {
        // 2 raised to MAX, 2 to MIN, 3 to MIN, by WHICH
        int[][] due = {{3, 1, 1}, {2, 2, 4}, {7, 4, 9}, {11, 3, 3}, {63, 97, 92}, {32769, 1, 1},
            {466307, 32958, 260290}};
        for (int which = 0; which <= 6; which++) {
            Secretshares x = with(which);
            String with = " with WHICH " + which;
            due("power(2, MAX)" + with, x.power(2, MAX), due[which][0]);
            due("power(2, MIN)" + with, x.power(2, MIN), due[which][1]);
            due("power(3, MIN)" + with, x.power(3, MIN), due[which][2]);
            due("power(-1, MAX)" + with, x.power(-1, MAX), Bounds.FIELDS[which][0] - 1);
            due("power(-1, MIN)" + with, x.power(-1, MIN), 1);
            due("power(-1, MIN + 1)" + with, x.power(-1, MIN + 1), Bounds.FIELDS[which][0] - 1);
        }
    }

    @Bounds.Says("number: any number")
    static void promise06FarthestNumbers() {
        for (int which = 0; which <= 6; which++) {
            Secretshares x = with(which);
            String with = " with WHICH " + which;
            due("power(MAX, 1)" + with, x.power(MAX, 1), FAR[which][0]);
            due("power(MIN, 1)" + with, x.power(MIN, 1), FAR[which][1]);
            due("power(MIN, 2)" + with, x.power(MIN, 2), FAR[which][6]);
            due("power(MAX, 2)" + with, x.power(MAX, 2), FAR[which][8]);
        }
    }

    @Bounds.Says("Returns the number raised to the exponent, MOD p")
    static void promise06RaisedToThePrimeAndRoundIt() {
        for (int which = 0; which <= 6; which++) {
            Secretshares x = with(which);
            int p = Bounds.FIELDS[which][0];
            due("2 raised to p - 1", x.power(2, p - 1), 1);
            due("2 raised to p", x.power(2, p), 2);
            due("2 raised to p - 2", x.power(2, p - 2), (p + 1) / 2);
            due("2 raised to 1 - p", x.power(2, 1 - p), 1);
            due("p - 1 raised to 2", x.power(p - 1, 2), 1);
        }
    }

    // ---- 7

    @Bounds.Says("Returns g raised to (number MOD p), MOD q.")
    static void promise07RoundThePrime() {
        int[] lastSeals = {4, 25, 12, 16, 347, 183504, 14684255};
        for (int which = 0; which <= 6; which++) {
            Secretshares x = with(which);
            int p = Bounds.FIELDS[which][0];
            for (int far : new int[] {0, p, -p, 2 * p}) {
                String with = " and " + far + " with " + p;
                due("sealOf() of 0" + with, x.sealOf(far), 1);
                due("sealOf() of 1" + with, x.sealOf(far + 1), Bounds.FIELDS[which][2]);
                due("sealOf() of p - 1" + with, x.sealOf(far + p - 1), lastSeals[which]);
            }
            due("sealOf(-1) with " + p, x.sealOf(-1), lastSeals[which]);
        }
    }

    @Bounds.Says("number: any number")
    static void promise07FarthestNumbers() {
        int[][] due = {{9, 9}, {7, 16}, {2, 6}, {15, 47}, {335, 117}, {707773, 707773}, {16647158, 6815081}};
        for (int which = 0; which <= 6; which++) {
            Secretshares x = with(which);
            due("sealOf(MAX) with WHICH " + which, x.sealOf(MAX), due[which][0]);
            due("sealOf(MIN) with WHICH " + which, x.sealOf(MIN), due[which][1]);
        }
    }

    // ---- 8

    @Bounds.Says("Throws IndexOutOfBoundsException if holder is not 1 to M")
    static void promise08HolderTooSmallOrTooLarge() {
        Bounds.holderBounds("weight()", (x, holder) -> x.weight(1, holder, 0));
        Bounds.holderBounds("weight() of all", (x, holder) -> x.weight((1 << x.house(4)) - 1, holder, 0));
    }

    @Bounds.Says("(also if set is no SET either)")
    static void promise08NeitherHolderNorSet() {
        for (int holder : new int[] {0, -1, 8, MIN, MAX}) {
            for (int set : new int[] {0, -1, 128, MIN, MAX}) {
                Bounds.indexGoesFirst("weight(" + set + ", " + holder + ")", x -> x.weight(set, holder, 0));
            }
        }
        Bounds.throwsIndex(() -> with(0), "weight(16, 5) with 5", x -> x.weight(16, 5, 0));
        Bounds.throwsIndex(() -> with(1), "weight(64, 7) with 7", x -> x.weight(64, 7, 0));
    }

    @Bounds.Says("Throws IllegalArgumentException if set is not 1 to 2^M - 1")
    static void promise08SetTooSmallOrTooLarge() {
        Bounds.setBounds("weight()", (x, set) -> x.weight(set, 1, 0));
        Bounds.setBounds("weight() of the last one", (x, set) -> x.weight(set, x.house(4), 0));
    }

    @Bounds.Says("REFUSED, if the HOLDER is not in the SET.")
    static void promise08HolderNotInTheSet() {
        for (int holder = 1; holder <= 7; holder++) {
            int one = holder;
            int all = 127 - (1 << (holder - 1));
            Bounds.refused(Bounds::made, "weight() of " + one + " in all others", x -> x.weight(all, one, 0));
            Bounds.refused(Bounds::made, "weight() of " + one + " in one other", x -> x.weight(all & -all, one, one));
            Bounds.isLet(Bounds::made, "weight() of " + one + " in all", x -> x.weight(127, one, 0));
        }
    }

    @Bounds.Says("exceptions go ahead of REFUSED")
    static void promise08ThrowsThoughTheHolderIsNotInTheSet() {
        Bounds.throwsArgument(Bounds::made, "weight(0, 1, 0)", x -> x.weight(0, 1, 0));
        Bounds.throwsArgument(Bounds::made, "weight(128, 1, 0)", x -> x.weight(128, 1, 0));
        Bounds.throwsArgument(Bounds::made, "weight(-2, 1, 0)", x -> x.weight(-2, 1, 0));
        Bounds.throwsArgument(() -> with(0), "weight(16, 1, 0) with 5", x -> x.weight(16, 1, 0));
    }

    @Bounds.Says("(1, if h is alone)")
    static void promise08Alone() {
        for (int holder = 1; holder <= 7; holder++) {
            int one = holder;
            for (int place : new int[] {0, 1, 7, -1, 13, MIN, MAX}) {
                String call = "weight() of " + one + " alone at " + place;
                Bounds.answers(Bounds::made, call, 1, x -> x.weight(1 << (one - 1), one, place));
            }
        }
    }

    @Bounds.Says("the product, over all other j of the SET, of (x - j) and of the RECIPROCAL of (h - j), MOD p")
    static void promise08OfTheWholeSet() {
        int[][] due = {{4, 4, 4, 4}, {6, 6, 6, 6, 6, 6}, {7, 1, 2, 9, 10, 4, 1}, {7, 5, 9, 4, 8, 6, 1},
            {7, 80, 35, 66, 21, 94, 1}, {7, 65516, 35, 65502, 21, 65530, 1},
            {7, 999982, 35, 999968, 21, 999996, 1}};
        for (int which = 0; which <= 6; which++) {
            Secretshares x = with(which);
            int m = Bounds.FIELDS[which][3];
            int all = (1 << m) - 1;
            for (int holder = 1; holder <= m; holder++) {
                due("weight() with WHICH " + which, x.weight(all, holder, 0), due[which][holder - 1]);
                due("weight() at the own place", x.weight(all, holder, holder), 1);
                due("weight() at another place", x.weight(all, holder, holder % m + 1), 0);
            }
        }
    }

    @Bounds.Says("place: any number")
    static void promise08FarthestPlaces() {
        int[] atMin = {765968, 650732, 980482, 557568, 468335, 96486, 480442};
        int[] atMax = {179075, 667789, 935440, 535916, 755471, 248992, 677330};
        int[] atMaxOf13 = {2, 6, 7, 5, 2, 12, 6};
        for (int holder = 1; holder <= 7; holder++) {
            due("weight() at MIN with 1000003", with(6).weight(127, holder, MIN), atMin[holder - 1]);
            due("weight() at MAX with 1000003", with(6).weight(127, holder, MAX), atMax[holder - 1]);
            due("weight() at MAX", with(3).weight(127, holder, MAX), atMaxOf13[holder - 1]);
            due("weight() at MIN, which is 2", with(3).weight(127, holder, MIN), holder == 2 ? 1 : 0);
            due("weight() at h - 13", with(3).weight(127, holder, holder - 13), 1);
            due("weight() at h + 13", with(3).weight(127, holder, holder + 13), 1);
        }
    }

    // ---- 9

    @Bounds.Says("Throws IllegalArgumentException if set is not 1 to 2^M - 1")
    static void promise09SetTooSmallOrTooLarge() {
        Bounds.setBounds("weights()", (x, set) -> x.weights(set, 0));
    }

    @Bounds.Says("Returns the sum of the WEIGHTS of all its HOLDERS at that place, MOD p.")
    static void promise09OfOneAlone() {
        for (int holder = 1; holder <= 7; holder++) {
            int set = 1 << (holder - 1);
            for (int place : new int[] {0, holder, -1, MIN, MAX}) {
                Bounds.answers(Bounds::made, "weights() of one at " + place, 1, x -> x.weights(set, place));
            }
        }
    }

    @Bounds.Says("Returns the sum of the WEIGHTS of all its HOLDERS at that place, MOD p.")
    static void promise09OfTheWholeSet() {
        for (int which = 0; which <= 6; which++) {
            Secretshares x = with(which);
            int all = (1 << Bounds.FIELDS[which][3]) - 1;
            for (int place : new int[] {0, 1, 7, 8, -1, MIN, MAX}) {
                due("weights() of all at " + place + " with WHICH " + which, x.weights(all, place), 1);
            }
        }
    }
}
