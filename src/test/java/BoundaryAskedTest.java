/** Boundary cases of promises 24 to 41: what is asked of deals. A test for each sentence. */
public final class BoundaryAskedTest {
    private static final int MIN = Bounds.MIN;
    private static final int MAX = Bounds.MAX;

    private BoundaryAskedTest() {
    }

    public static void main(String[] args) throws IllegalAccessException {
        Bounds.run(BoundaryAskedTest.class, 24, 41);
    }

    private static void due(String call, Object got, Object want) {
        Check.due(call, got, want);
    }

    private static Secretshares with(int which) {
        Secretshares x = new Secretshares();
        x.prime(which);
        return x;
    }

    /** made(), and in the DEAL 0 the HOLDER 1 has a wrong SHARE: 8, not 7. */
    private static Secretshares oneWrong() {
        Secretshares x = Bounds.made();
        x.give(0, 1, 8);
        return x;
    }

    /** made(), and in the DEAL 0 just these HOLDERS have SHARES. */
    private static Secretshares just(int... holders) {
        Secretshares x = Bounds.made();
        int set = 0;
        for (int holder : holders) {
            set |= 1 << (holder - 1);
        }
        for (int holder = 1; holder <= 7; holder++) {
            if ((set >> (holder - 1) & 1) == 0) {
                x.lose(0, holder);
            }
        }
        return x;
    }

    /** In the DEAL 0 one of the DEGREE, made of DEALS of the DEGREES 3 or less; its POLY is the number 2 alone. */
    private static Secretshares ofDegree(int which, int degree) {
        Secretshares x = with(which);
        int first = Math.min(3, degree);
        x.hide(0, first, 2, 0, 0, 0);
        x.hide(1, degree - first, 1, 0, 0, 0);
        if (first < degree) {
            x.times(0, 1, 0);
        }
        return x;
    }

    /** Where the deal and the set are wrong, it is the deal that is named first. */
    private static void neitherDealNorSet(String call, Bounds.At at) {
        for (int deal : new int[] {-1, 6, MIN, MAX}) {
            Bounds.indexGoesFirst(call + " of the deal " + deal + ", which throws for the set 0", x -> at.of(x, deal));
        }
    }

    // ---- 24

    @Bounds.Says("Throws IndexOutOfBoundsException if deal is not 0 to 5")
    static void promise24DealTooSmallOrTooLarge() {
        Bounds.dealBounds("share()", (x, deal) -> x.share(deal, 1));
    }

    @Bounds.Says("or holder not 1 to M")
    static void promise24HolderTooSmallOrTooLarge() {
        Bounds.holderBounds("share()", (x, holder) -> x.share(0, holder));
        Bounds.holderBounds("share() in the last deal", (x, holder) -> x.share(5, holder));
    }

    @Bounds.Says("NONE without one")
    static void promise24WithoutOne() {
        Bounds.answers(Bounds::made, "share() of one who lost it", -1, x -> x.share(1, 4));
        for (int holder = 1; holder <= 7; holder++) {
            int one = holder;
            Bounds.answers(Bounds::made, "share() where nobody has one", -1, x -> x.share(3, one));
        }
    }

    @Bounds.Says("(also if the DEAL is EMPTY)")
    static void promise24InAnEmptyDeal() {
        for (int holder = 1; holder <= 7; holder++) {
            int one = holder;
            Bounds.answers(Bounds::made, "share() in the deal 4", -1, x -> x.share(4, one));
            Bounds.answers(Bounds::fresh, "share() in the deal 0", -1, x -> x.share(0, one));
        }
    }

    @Bounds.Says("Returns the SHARE")
    static void promise24TheLeastAndTheGreatestShare() {
        Bounds.answers(Bounds::made, "share() of 0", 0, x -> x.share(0, 3));
        Bounds.answers(Bounds::made, "share() of p - 1", 12, x -> x.share(0, 7));
        Secretshares x = with(6);
        x.hide(5, 0, -1, 0, 0, 0);
        due("share() of p - 1", x.share(5, 7), 1000002);
    }

    // ---- 25

    @Bounds.Says("Throws IndexOutOfBoundsException if deal is not 0 to 5")
    static void promise25DealTooSmallOrTooLarge() {
        for (int what = 0; what <= 5; what++) {
            int one = what;
            Bounds.dealBounds("ofDeal() with " + what, (x, deal) -> x.ofDeal(deal, one));
        }
    }

    @Bounds.Says("Throws IllegalArgumentException if what is not 0 to 5")
    static void promise25WhatTooSmallOrTooLarge() {
        Bounds.upTo(5, "ofDeal()", (x, what) -> x.ofDeal(0, what));
        Bounds.upTo(5, "ofDeal() of the last deal", (x, what) -> x.ofDeal(5, what));
    }

    @Bounds.Says("If several exceptions apply, the one that is named first is thrown")
    static void promise25NeitherDealNorWhat() {
        for (int wrong : new int[] {-1, 6, MIN, MAX}) {
            Bounds.indexGoesFirst("ofDeal(" + wrong + ", " + wrong + ")", x -> x.ofDeal(wrong, wrong));
        }
    }

    @Bounds.Says("of an EMPTY one NONE for 0 and 5, otherwise 0")
    static void promise25OfAnEmptyDeal() {
        int[] due = {-1, 0, 0, 0, 0, -1};
        for (int what = 0; what <= 5; what++) {
            int one = what;
            Bounds.answers(Bounds::made, "ofDeal(4, " + what + ")", due[what], x -> x.ofDeal(4, one));
            Bounds.answers(Bounds::fresh, "ofDeal(0, " + what + ")", due[what], x -> x.ofDeal(0, one));
        }
    }

    @Bounds.Says("2 the SET of all HOLDERS with a SHARE (0 without any)")
    static void promise25NobodyHasAShare() {
        // it AGREES: "all HOLDERS with a SHARE together AGREE (also if there are none)"
        int[] due = {0, 0, 0, 1, 1, -1};
        for (int what = 0; what <= 5; what++) {
            int one = what;
            Bounds.answers(Bounds::made, "ofDeal(3, " + what + ")", due[what], x -> x.ofDeal(3, one));
        }
    }

    @Bounds.Says("2 the SET of all HOLDERS with a SHARE")
    static void promise25OneHasAShareAndAllHaveOne() {
        for (int holder = 1; holder <= 7; holder++) {
            int one = holder;
            Bounds.answers(() -> just(one), "how many of one", 1, x -> x.ofDeal(0, 1));
            Bounds.answers(() -> just(one), "SET of one", 1 << (one - 1), x -> x.ofDeal(0, 2));
        }
        Bounds.answers(Bounds::made, "how many of all", 7, x -> x.ofDeal(0, 1));
        Bounds.answers(Bounds::made, "SET of all", 127, x -> x.ofDeal(0, 2));
        Bounds.answers(() -> Bounds.filled(0), "SET of all four", 15, x -> x.ofDeal(5, 2));
        Bounds.answers(() -> Bounds.filled(1), "SET of all six", 63, x -> x.ofDeal(5, 2));
    }

    @Bounds.Says("3 1 if it has SEALS, otherwise 0")
    static void promise25WithoutSeals() {
        Bounds.answers(Bounds::made, "ofDeal(2, 3)", 0, x -> x.ofDeal(2, 3));
        Bounds.answers(Bounds::made, "ofDeal(1, 3)", 1, x -> x.ofDeal(1, 3));
    }

    @Bounds.Says("4 1 if it AGREES, otherwise 0")
    static void promise25AgreesWithDegreeAnd1AndNotWithDegreeAnd2() {
        Bounds.answers(BoundaryAskedTest::oneWrong, "with one wrong", 0, x -> x.ofDeal(0, 4));
        Secretshares x = oneWrong();
        Bounds.lose(x, 0, 4, 5, 6, 7);
        due("with DEGREE + 2 SHARES", x.ofDeal(0, 4), 0);
        x.lose(0, 3);
        due("with DEGREE + 1 SHARES", x.ofDeal(0, 4), 1);
        x.lose(0, 2);
        due("with DEGREE SHARES", x.ofDeal(0, 4), 1);
    }

    @Bounds.Says("5 what those DEGREE + 1 HOLDERS with a SHARE who have the smallest numbers TELL at 0")
    static void promise25TheSmallestNumbers() {
        Secretshares x = oneWrong();
        due("of 1 and 2", x.ofDeal(0, 5), 6);
        x.lose(0, 1);
        due("of 2 and 3", x.ofDeal(0, 5), 4);
        x.give(0, 1, 8);
        x.lose(0, 2);
        // through (1, 8) and (3, 0): the slope is -4
        due("of 1 and 3", x.ofDeal(0, 5), 12);
        due("of a deal with one lost", x.ofDeal(1, 5), 11);
    }

    @Bounds.Says("(NONE, if fewer have one)")
    static void promise25FewerThanDegreeAnd1() {
        Bounds.answers(() -> just(3), "DEGREE 1, one SHARE", -1, x -> x.ofDeal(0, 5));
        Bounds.answers(() -> just(), "DEGREE 1, no SHARE", -1, x -> x.ofDeal(0, 5));
        Bounds.answers(() -> just(6, 7), "DEGREE 1, two SHARES", 4, x -> x.ofDeal(0, 5));
        Bounds.answers(() -> just(1, 7), "DEGREE 1, two SHARES", 4, x -> x.ofDeal(0, 5));
        Bounds.answers(Bounds::made, "DEGREE 0, no SHARE", -1, x -> x.ofDeal(3, 5));
        Secretshares x = ofDegree(3, 6);
        due("DEGREE 6, seven SHARES", x.ofDeal(0, 5), 2);
        x.lose(0, 1);
        due("DEGREE 6, six SHARES", x.ofDeal(0, 5), -1);
        x = with(0);
        x.hide(0, 3, 2, 1, 1, 1);
        due("DEGREE 3, four SHARES", x.ofDeal(0, 5), 2);
        x.times(0, 0, 1);
        due("DEGREE 6, four SHARES", x.ofDeal(1, 5), -1);
    }

    // ---- 26

    @Bounds.Says("Throws IndexOutOfBoundsException if deal is not 0 to 5")
    static void promise26DealTooSmallOrTooLarge() {
        Bounds.dealBounds("told()", (x, deal) -> x.told(deal, 1, 0));
    }

    @Bounds.Says("Throws IllegalArgumentException if set is not 1 to 2^M - 1")
    static void promise26SetTooSmallOrTooLarge() {
        Bounds.setBounds("told()", (x, set) -> x.told(0, set, 0));
        Bounds.setBounds("told() of the last deal", (x, set) -> x.told(5, set, 0));
    }

    @Bounds.Says("If several exceptions apply, the one that is named first is thrown")
    static void promise26NeitherDealNorSet() {
        neitherDealNorSet("told()", (x, deal) -> x.told(deal, 0, 0));
        neitherDealNorSet("told()", (x, deal) -> x.told(deal, 128, 0));
    }

    @Bounds.Says("exceptions go ahead of REFUSED")
    static void promise26ThrowsThoughRefused() {
        for (int set : new int[] {0, 128, -1, MIN, MAX}) {
            Bounds.throwsArgument(Bounds::made, "told() of an EMPTY one", x -> x.told(4, set, 0));
            Bounds.throwsArgument(Bounds::made, "told() where nobody has one", x -> x.told(3, set, 0));
        }
    }

    @Bounds.Says("REFUSED, if the DEAL is EMPTY")
    static void promise26OfAnEmptyDeal() {
        Bounds.refused(Bounds::made, "told() of the deal 4", x -> x.told(4, 1, 0));
        Bounds.refused(Bounds::made, "told() of the deal 5", x -> x.told(5, 127, 0));
        Bounds.refused(Bounds::fresh, "told() of the deal 0", x -> x.told(0, 127, MIN));
    }

    @Bounds.Says("or the SET is not THERE")
    static void promise26NotThere() {
        Bounds.refused(Bounds::made, "told() by all, one lost it", x -> x.told(1, 127, 0));
        Bounds.refused(Bounds::made, "told() by the one who lost it", x -> x.told(1, 8, 4));
        Bounds.refused(Bounds::made, "told() where nobody has one", x -> x.told(3, 64, 0));
        Bounds.answers(Bounds::made, "told() by all others", 11, x -> x.told(1, 119, 0));
    }

    @Bounds.Says("Returns what the SET TELLS at that place")
    static void promise26TooFewAreLet() {
        Bounds.answers(Bounds::made, "told() by one", 12, x -> x.told(0, 64, 0));
        Bounds.answers(Bounds::made, "told() by one, far off", 12, x -> x.told(0, 64, MIN));
        Bounds.answers(Bounds::made, "told() by two with DEGREE 2", 10, x -> x.told(1, 3, 0));
    }

    @Bounds.Says("place: any number")
    static void promise26FarthestPlaces() {
        // 4 + 3x at MIN, which is 2, and at MAX, which is 10
        Bounds.answers(Bounds::made, "told() at MIN", 10, x -> x.told(0, 127, MIN));
        Bounds.answers(Bounds::made, "told() at MAX", 8, x -> x.told(0, 127, MAX));
        Bounds.answers(Bounds::made, "told() at -1", 1, x -> x.told(0, 127, -1));
        Bounds.answers(Bounds::made, "told() at 13", 4, x -> x.told(0, 127, 13));
        Bounds.answers(Bounds::made, "told() at -13", 4, x -> x.told(0, 96, -13));
        Secretshares x = with(6);
        x.hide(0, 1, -1, 1, 0, 0);
        due("told() at MIN with 1000003", x.told(0, 127, MIN), 522795);
        due("told() at MAX with 1000003", x.told(0, 3, MAX), 477205);
        due("told() at 0 with 1000003", x.told(0, 96, 0), 1000002);
    }

    @Bounds.Says("the sum, over all h of the SET, of the SHARE of h times the WEIGHT of h at x, MOD p")
    static void promise26AtTheOwnPlaces() {
        for (int holder = 1; holder <= 7; holder++) {
            int one = holder;
            int due = Bounds.made().share(2, holder);
            Bounds.answers(Bounds::made, "told() at " + holder, due, x -> x.told(2, 127, one));
            Bounds.answers(Bounds::made, "told() by one at " + holder, due, x -> x.told(2, 1 << (one - 1), one));
            Bounds.answers(Bounds::made, "told() by others at " + holder, due,
                x -> x.told(2, 127 - (1 << (one - 1)), one));
        }
    }

    // ---- 27

    @Bounds.Says("Throws IndexOutOfBoundsException if deal is not 0 to 5")
    static void promise27DealTooSmallOrTooLarge() {
        Bounds.dealBounds("open()", (x, deal) -> x.open(deal, 127));
    }

    @Bounds.Says("Throws IllegalArgumentException if set is not 1 to 2^M - 1")
    static void promise27SetTooSmallOrTooLarge() {
        Bounds.setBounds("open()", (x, set) -> x.open(0, set));
        Bounds.setBounds("open() of the last deal", (x, set) -> x.open(5, set));
    }

    @Bounds.Says("If several exceptions apply, the one that is named first is thrown")
    static void promise27NeitherDealNorSet() {
        neitherDealNorSet("open()", (x, deal) -> x.open(deal, 0));
        neitherDealNorSet("open()", (x, deal) -> x.open(deal, 128));
    }

    @Bounds.Says("exceptions go ahead of REFUSED")
    static void promise27ThrowsThoughRefused() {
        for (int set : new int[] {0, 128, -1, MIN, MAX}) {
            Bounds.throwsArgument(Bounds::made, "open() of an EMPTY one", x -> x.open(4, set));
            Bounds.throwsArgument(Bounds::made, "open() where nobody has one", x -> x.open(3, set));
        }
    }

    @Bounds.Says("REFUSED, if the DEAL is EMPTY")
    static void promise27OfAnEmptyDeal() {
        Bounds.refused(Bounds::made, "open() of the deal 4", x -> x.open(4, 127));
        Bounds.refused(Bounds::made, "open() of the deal 5", x -> x.open(5, 1));
        Bounds.refused(Bounds::fresh, "open() of the deal 0", x -> x.open(0, 127));
    }

    @Bounds.Says("or the SET is not ENOUGH there")
    static void promise27NotThere() {
        Bounds.refused(Bounds::made, "open() by all, one lost it", x -> x.open(1, 127));
        Bounds.refused(Bounds::made, "open() by four, one lost it", x -> x.open(1, 15));
        Bounds.refused(Bounds::made, "open() where nobody has one", x -> x.open(3, 1));
        Bounds.refused(Bounds::made, "open() where nobody has one", x -> x.open(3, 127));
    }

    @Bounds.Says("It is ENOUGH, if it is THERE and has more than DEGREE HOLDERS.")
    static void promise27DegreeHoldersAndOneMore() {
        for (int degree = 0; degree <= 6; degree++) {
            int one = degree;
            int few = (1 << degree) - 1;
            int enough = (2 << degree) - 1;
            if (degree > 0) {
                Bounds.refused(() -> ofDegree(3, one), "open() by DEGREE " + degree, x -> x.open(0, few));
                Bounds.refused(() -> ofDegree(6, one), "open() by DEGREE " + degree, x -> x.open(0, few));
            }
            Bounds.answers(() -> ofDegree(3, one), "open() by DEGREE " + degree + " + 1", 2, x -> x.open(0, enough));
            Bounds.answers(() -> ofDegree(6, one), "open() by all", 2, x -> x.open(0, 127));
        }
        Bounds.refused(() -> ofDegree(0, 4), "open() by all four with DEGREE 4", x -> x.open(0, 15));
        Bounds.answers(() -> ofDegree(0, 3), "open() by all four with DEGREE 3", 2, x -> x.open(0, 15));
    }

    @Bounds.Says("Returns what the SET TELLS at 0")
    static void promise27RightOrWrong() {
        Bounds.answers(Bounds::made, "open() by all", 4, x -> x.open(0, 127));
        Bounds.answers(BoundaryAskedTest::oneWrong, "open() with a wrong one", 6, x -> x.open(0, 3));
        Bounds.answers(BoundaryAskedTest::oneWrong, "open() without the wrong one", 4, x -> x.open(0, 126));
    }

    // ---- 28

    @Bounds.Says("Throws IndexOutOfBoundsException if deal is not 0 to 5")
    static void promise28DealTooSmallOrTooLarge() {
        Bounds.dealBounds("coefficient()", (x, deal) -> x.coefficient(deal, 1, 0));
    }

    @Bounds.Says("Throws IllegalArgumentException if set is not 1 to 2^M - 1")
    static void promise28SetTooSmallOrTooLarge() {
        Bounds.setBounds("coefficient()", (x, set) -> x.coefficient(0, set, 0));
        Bounds.setBounds("coefficient() of the last deal", (x, set) -> x.coefficient(5, set, 6));
    }

    @Bounds.Says("or k not 0 to 6")
    static void promise28KTooSmallOrTooLarge() {
        Bounds.upTo(6, "coefficient()", (x, k) -> x.coefficient(0, 127, k));
        Bounds.upTo(6, "coefficient() of one", (x, k) -> x.coefficient(0, 1, k));
        Bounds.upTo(6, "coefficient() of the last deal", (x, k) -> x.coefficient(5, 127, k));
    }

    @Bounds.Says("If several exceptions apply, the one that is named first is thrown")
    static void promise28SeveralAreWrong() {
        neitherDealNorSet("coefficient()", (x, deal) -> x.coefficient(deal, 0, 0));
        neitherDealNorSet("coefficient()", (x, deal) -> x.coefficient(deal, 1, 7));
        neitherDealNorSet("coefficient()", (x, deal) -> x.coefficient(deal, 128, -1));
        Bounds.throwsArgument(Bounds::made, "coefficient(), neither set nor k", x -> x.coefficient(0, 0, 7));
    }

    @Bounds.Says("exceptions go ahead of REFUSED")
    static void promise28ThrowsThoughRefused() {
        for (int wrong : new int[] {-1, 128, MIN, MAX}) {
            Bounds.throwsArgument(Bounds::made, "coefficient() of an EMPTY one", x -> x.coefficient(4, wrong, 0));
            Bounds.throwsArgument(Bounds::made, "coefficient() of an EMPTY one", x -> x.coefficient(4, 1, wrong));
            Bounds.throwsArgument(Bounds::made, "coefficient(), not THERE", x -> x.coefficient(1, 127, wrong));
        }
        Bounds.throwsArgument(Bounds::made, "coefficient(), not THERE", x -> x.coefficient(1, 127, 7));
    }

    @Bounds.Says("Returns REFUSED, if the DEAL is EMPTY, or the SET is not THERE (whichever k of 0 to 6)")
    static void promise28EmptyOrNotThere() {
        for (int k = 0; k <= 6; k++) {
            int one = k;
            Bounds.refused(Bounds::made, "coefficient() of an EMPTY one", x -> x.coefficient(4, 1, one));
            Bounds.refused(Bounds::fresh, "coefficient() of an EMPTY one", x -> x.coefficient(0, 127, one));
            Bounds.refused(Bounds::made, "coefficient() by all, one lost it", x -> x.coefficient(1, 127, one));
            Bounds.refused(Bounds::made, "coefficient() by who lost it", x -> x.coefficient(1, 8, one));
            Bounds.refused(Bounds::made, "coefficient() where nobody has one", x -> x.coefficient(3, 1, one));
        }
    }

    @Bounds.Says("otherwise the COEFFICIENT k of the POLY THROUGH the SET")
    static void promise28TooFewAreLet() {
        Bounds.answers(Bounds::made, "coefficient() of one", 7, x -> x.coefficient(0, 1, 0));
        Bounds.answers(Bounds::made, "coefficient() of one", 0, x -> x.coefficient(0, 1, 1));
        // through (1, 10) and (3, 11): the slope is 1 / 2, which is 7
        Bounds.answers(Bounds::made, "coefficient() of two with DEGREE 2", 3, x -> x.coefficient(1, 5, 0));
        Bounds.answers(Bounds::made, "coefficient() of two with DEGREE 2", 7, x -> x.coefficient(1, 5, 1));
        Bounds.answers(Bounds::made, "coefficient() of two with DEGREE 2", 0, x -> x.coefficient(1, 5, 2));
    }

    @Bounds.Says("(0, if k is as great as the number of its HOLDERS, or greater)")
    static void promise28KAsGreatAsTheNumberOfHolders() {
        // with one SHARE 1 the others 0, c(n - 1) is not 0
        for (int n = 1; n <= 7; n++) {
            int set = (1 << n) - 1;
            for (int k = 0; k <= 6; k++) {
                Secretshares x = new Secretshares();
                x.hide(0, 0, 0, 0, 0, 0);
                x.give(0, n, 1);
                if (k >= n) {
                    due("coefficient " + k + " of " + n, x.coefficient(0, set, k), 0);
                } else if (k == n - 1) {
                    due("coefficient " + k + " of " + n + " is not 0", x.coefficient(0, set, k) > 0, true);
                }
            }
        }
    }

    @Bounds.Says("otherwise the COEFFICIENT k of the POLY THROUGH the SET")
    static void promise28OfOneAndOfAll() {
        Secretshares x = new Secretshares();
        x.hide(0, 0, 0, 0, 0, 0);
        x.give(0, 7, 6);
        // 9 * (x - 1) ... (x - 6), as 6! is 5 and 6 / 5 is 9: 720, -1764, 1624, -735, 175, -21, 1 times 9
        int[] due = {6, 10, 4, 2, 2, 6, 9};
        for (int k = 0; k <= 6; k++) {
            due("coefficient " + k + " of seven", x.coefficient(0, 127, k), due[k]);
            due("coefficient " + k + " of one", x.coefficient(0, 64, k), k == 0 ? 6 : 0);
        }
    }

    // ---- 29

    @Bounds.Says("Throws IndexOutOfBoundsException if deal is not 0 to 5")
    static void promise29DealTooSmallOrTooLarge() {
        Bounds.dealBounds("degreeBy()", (x, deal) -> x.degreeBy(deal, 1));
    }

    @Bounds.Says("Throws IllegalArgumentException if set is not 1 to 2^M - 1")
    static void promise29SetTooSmallOrTooLarge() {
        Bounds.setBounds("degreeBy()", (x, set) -> x.degreeBy(0, set));
        Bounds.setBounds("degreeBy() of the last deal", (x, set) -> x.degreeBy(5, set));
    }

    @Bounds.Says("If several exceptions apply, the one that is named first is thrown")
    static void promise29NeitherDealNorSet() {
        neitherDealNorSet("degreeBy()", (x, deal) -> x.degreeBy(deal, 0));
        neitherDealNorSet("degreeBy()", (x, deal) -> x.degreeBy(deal, 128));
    }

    @Bounds.Says("exceptions go ahead of REFUSED")
    static void promise29ThrowsThoughRefused() {
        for (int set : new int[] {0, 128, -1, MIN, MAX}) {
            Bounds.throwsArgument(Bounds::made, "degreeBy() of an EMPTY one", x -> x.degreeBy(4, set));
            Bounds.throwsArgument(Bounds::made, "degreeBy() where nobody has one", x -> x.degreeBy(3, set));
        }
    }

    @Bounds.Says("REFUSED, if the DEAL is EMPTY")
    static void promise29OfAnEmptyDeal() {
        Bounds.refused(Bounds::made, "degreeBy() of the deal 4", x -> x.degreeBy(4, 1));
        Bounds.refused(Bounds::fresh, "degreeBy() of the deal 0", x -> x.degreeBy(0, 127));
    }

    @Bounds.Says("or the SET is not THERE")
    static void promise29NotThere() {
        Bounds.refused(Bounds::made, "degreeBy() by all, one lost it", x -> x.degreeBy(1, 127));
        Bounds.refused(Bounds::made, "degreeBy() by the one who lost it", x -> x.degreeBy(1, 8));
        Bounds.refused(Bounds::made, "degreeBy() where nobody has one", x -> x.degreeBy(3, 1));
    }

    @Bounds.Says("NONE, if all are 0")
    static void promise29AllAre0() {
        Bounds.answers(Bounds::made, "degreeBy() of one SHARE 0", -1, x -> x.degreeBy(0, 4));
        Secretshares x = Bounds.made();
        x.scale(0, 0, 4);
        for (int set = 1; set <= 127; set += 21) {
            due("degreeBy() of 0", x.degreeBy(4, set), -1);
        }
    }

    @Bounds.Says("Returns the greatest k for which the COEFFICIENT k of the POLY THROUGH the SET is not 0")
    static void promise29TheLeastAndTheGreatest() {
        Bounds.answers(Bounds::made, "degreeBy() of one", 0, x -> x.degreeBy(0, 1));
        Bounds.answers(Bounds::made, "degreeBy() of two alike", 0, x -> x.degreeBy(1, 3));
        Bounds.answers(Bounds::made, "degreeBy() of all", 1, x -> x.degreeBy(0, 127));
        Secretshares x = oneWrong();
        for (int n = 3; n <= 7; n++) {
            due("degreeBy() of " + n + " with a wrong one", x.degreeBy(0, (1 << n) - 1), n - 1);
        }
    }

    // ---- 30

    @Bounds.Says("Throws IndexOutOfBoundsException if deal is not 0 to 5")
    static void promise30DealTooSmallOrTooLarge() {
        Bounds.dealBounds("agrees()", (x, deal) -> x.agrees(deal, 1));
    }

    @Bounds.Says("Throws IllegalArgumentException if set is not 1 to 2^M - 1")
    static void promise30SetTooSmallOrTooLarge() {
        Bounds.setBounds("agrees()", (x, set) -> x.agrees(0, set));
        Bounds.setBounds("agrees() of the last deal", (x, set) -> x.agrees(5, set));
    }

    @Bounds.Says("If several exceptions apply, the one that is named first is thrown")
    static void promise30NeitherDealNorSet() {
        neitherDealNorSet("agrees()", (x, deal) -> x.agrees(deal, 0));
        neitherDealNorSet("agrees()", (x, deal) -> x.agrees(deal, 128));
    }

    @Bounds.Says("exceptions go ahead of REFUSED")
    static void promise30ThrowsThoughRefused() {
        for (int set : new int[] {0, 128, -1, MIN, MAX}) {
            Bounds.throwsArgument(Bounds::made, "agrees() of an EMPTY one", x -> x.agrees(4, set));
            Bounds.throwsArgument(Bounds::made, "agrees() where nobody has one", x -> x.agrees(3, set));
        }
    }

    @Bounds.Says("REFUSED, if the DEAL is EMPTY")
    static void promise30OfAnEmptyDeal() {
        Bounds.refused(Bounds::made, "agrees() of the deal 4", x -> x.agrees(4, 1));
        Bounds.refused(Bounds::fresh, "agrees() of the deal 0", x -> x.agrees(0, 127));
    }

    @Bounds.Says("or the SET is not THERE")
    static void promise30NotThere() {
        Bounds.refused(Bounds::made, "agrees() by all, one lost it", x -> x.agrees(1, 127));
        Bounds.refused(Bounds::made, "agrees() by the one who lost it", x -> x.agrees(1, 8));
        Bounds.refused(Bounds::made, "agrees() where nobody has one", x -> x.agrees(3, 1));
    }

    @Bounds.Says("(So it does, if it is THERE and has no more than DEGREE + 1 HOLDERS.)")
    static void promise30DegreeAnd1HoldersAndOneMore() {
        for (int degree = 0; degree <= 6; degree++) {
            for (int n = 1; n <= 7; n++) {
                Secretshares x = ofDegree(3, degree);
                x.give(0, 1, 3);
                String call = "agrees() of " + n + " with DEGREE " + degree;
                due(call, x.agrees(0, (1 << n) - 1), n <= degree + 1 ? 1 : 0);
            }
        }
    }

    @Bounds.Says("its SHARES are VALUES (at their places) of some POLY of the DEGREE of the DEAL")
    static void promise30AllAgree() {
        for (int deal = 0; deal <= 2; deal++) {
            int one = deal;
            int all = Bounds.made().ofDeal(deal, 2);
            Bounds.answers(Bounds::made, "agrees() of all in " + deal, 1, x -> x.agrees(one, all));
        }
        Bounds.answers(BoundaryAskedTest::oneWrong, "agrees() with a wrong one", 0, x -> x.agrees(0, 127));
        Bounds.answers(BoundaryAskedTest::oneWrong, "agrees() without it", 1, x -> x.agrees(0, 126));
    }

    // ---- 31

    @Bounds.Says("Throws IndexOutOfBoundsException if deal is not 0 to 5")
    static void promise31DealTooSmallOrTooLarge() {
        Bounds.dealBounds("suspects()", Secretshares::suspects);
    }

    @Bounds.Says("REFUSED, if the DEAL is EMPTY.")
    static void promise31OfAnEmptyDeal() {
        Bounds.refused(Bounds::made, "suspects(4)", x -> x.suspects(4));
        Bounds.refused(Bounds::fresh, "suspects(0)", x -> x.suspects(0));
    }

    @Bounds.Says("(0, if it is not EMPTY, and there are none)")
    static void promise31ThereAreNone() {
        Bounds.answers(Bounds::made, "suspects() where nobody has a SHARE", 0, x -> x.suspects(3));
        Secretshares x = oneWrong();
        x.give(0, 2, 0);
        Check.answers(x, "suspects() with two wrong ones", 0, () -> x.suspects(0));
    }

    @Bounds.Says("A SUSPECT of a DEAL: a HOLDER with a SHARE without whom all other HOLDERS with a SHARE AGREE together"
        + " (also if there are no others).")
    static void promise31OneAlone() {
        for (int holder = 1; holder <= 7; holder++) {
            int one = holder;
            Bounds.answers(() -> just(one), "suspects() of one alone", 1 << (one - 1), x -> x.suspects(0));
        }
        Secretshares x = Bounds.made();
        x.give(3, 4, 0);
        due("suspects() of one alone with DEGREE 0", x.suspects(3), 8);
    }

    @Bounds.Says("Returns all its SUSPECTS as a SET")
    static void promise31AllOrOne() {
        Bounds.answers(Bounds::made, "suspects() as all AGREE", 127, x -> x.suspects(0));
        Bounds.answers(Bounds::made, "suspects() as all with a SHARE AGREE", 119, x -> x.suspects(1));
        Bounds.answers(() -> Bounds.filled(0), "suspects() as all four AGREE", 15, x -> x.suspects(0));
        for (int holder = 1; holder <= 7; holder++) {
            Secretshares x = Bounds.made();
            x.give(0, holder, x.share(0, holder) + 1);
            due("suspects() with one wrong", x.suspects(0), 1 << (holder - 1));
        }
    }

    @Bounds.Says("without whom all other HOLDERS with a SHARE AGREE together")
    static void promise31DegreeAnd2SharesAndOneMore() {
        Secretshares x = oneWrong();
        Bounds.lose(x, 0, 4, 5, 6);
        due("suspects() of DEGREE + 3", x.suspects(0), 1);
        x.lose(0, 7);
        due("suspects() of DEGREE + 2", x.suspects(0), 7);
        x.lose(0, 3);
        due("suspects() of DEGREE + 1", x.suspects(0), 3);
    }

    // ---- 32

    @Bounds.Says("Throws IndexOutOfBoundsException if deal is not 0 to 5")
    static void promise32DealTooSmallOrTooLarge() {
        Bounds.dealBounds("wrong()", Secretshares::wrong);
    }

    @Bounds.Says("REFUSED, if the DEAL is EMPTY")
    static void promise32OfAnEmptyDeal() {
        Bounds.refused(Bounds::made, "wrong(4)", x -> x.wrong(4));
        Bounds.refused(Bounds::fresh, "wrong(0)", x -> x.wrong(0));
    }

    @Bounds.Says("Returns 0, if the DEAL AGREES")
    static void promise32TheDealAgrees() {
        for (int deal = 0; deal <= 3; deal++) {
            int one = deal;
            Bounds.answers(Bounds::made, "wrong(" + deal + ")", 0, x -> x.wrong(one));
        }
        Bounds.answers(() -> ofDegree(3, 6), "wrong() with DEGREE 6", 0, x -> x.wrong(0));
    }

    @Bounds.Says("A DEAL AGREES, if it is not EMPTY, and all HOLDERS with a SHARE together AGREE (also if there are"
        + " none).")
    static void promise32FewSharesAgree() {
        Bounds.answers(() -> just(), "wrong() of nobody", 0, x -> x.wrong(0));
        Bounds.answers(() -> just(7), "wrong() of one", 0, x -> x.wrong(0));
        Bounds.answers(() -> just(2, 5), "wrong() of DEGREE + 1", 0, x -> x.wrong(0));
        Bounds.answers(() -> just(2, 5, 6), "wrong() of DEGREE + 2 who AGREE", 0, x -> x.wrong(0));
    }

    @Bounds.Says("REFUSED too, if it does not AGREE and one of both is so: it has fewer than DEGREE + 3 SHARES")
    static void promise32DegreeAnd2SharesAndOneMore() {
        for (int degree = 0; degree <= 4; degree++) {
            for (int wrong = 1; wrong <= degree + 2; wrong++) {
                Secretshares x = ofDegree(3, degree);
                for (int holder = degree + 4; holder <= 7; holder++) {
                    x.lose(0, holder);
                }
                x.give(0, wrong, 3);
                due("wrong() of DEGREE + 3, DEGREE " + degree, x.wrong(0), wrong);
                x.lose(0, degree + 3);
                Check.refused(x, "wrong() of DEGREE + 2, DEGREE " + degree, () -> x.wrong(0));
            }
        }
        Secretshares x = ofDegree(3, 5);
        x.give(0, 7, 3);
        Check.refused(x, "wrong() of seven with DEGREE 5", () -> x.wrong(0));
    }

    @Bounds.Says("it has no SUSPECT")
    static void promise32NoSuspect() {
        Secretshares x = Bounds.made();
        x.give(0, 6, 0);
        x.give(0, 7, 0);
        due("suspects()", x.suspects(0), 0);
        Check.refused(x, "wrong() with two wrong ones", () -> x.wrong(0));
        Secretshares y = just(1, 2, 3, 4);
        y.give(0, 1, 1);
        y.give(0, 2, 0);
        due("suspects() of DEGREE + 3", y.suspects(0), 0);
        Check.refused(y, "wrong() with DEGREE + 3, two wrong ones", () -> y.wrong(0));
    }

    @Bounds.Says("otherwise its only SUSPECT")
    static void promise32EachHolder() {
        for (int which = 0; which <= 6; which++) {
            int m = Bounds.FIELDS[which][3];
            for (int holder = 1; holder <= m; holder++) {
                Secretshares x = Bounds.filled(which);
                x.give(1, holder, x.share(1, holder) - 1);
                due("wrong() with WHICH " + which, x.wrong(1), holder);
            }
        }
    }

    // ---- 33

    @Bounds.Says("Throws IndexOutOfBoundsException if deal is not 0 to 5")
    static void promise33DealTooSmallOrTooLarge() {
        Bounds.dealBounds("ways()", (x, deal) -> x.ways(deal, 1, 0));
    }

    @Bounds.Says("Throws IllegalArgumentException if set is not 1 to 2^M - 1")
    static void promise33SetTooSmallOrTooLarge() {
        Bounds.setBounds("ways()", (x, set) -> x.ways(0, set, 0));
        Bounds.setBounds("ways() of too great a DEGREE", (x, set) -> x.ways(3, set, 0));
    }

    @Bounds.Says("If several exceptions apply, the one that is named first is thrown")
    static void promise33NeitherDealNorSet() {
        neitherDealNorSet("ways()", (x, deal) -> x.ways(deal, 0, 0));
        neitherDealNorSet("ways()", (x, deal) -> x.ways(deal, 128, 0));
    }

    @Bounds.Says("exceptions go ahead of REFUSED")
    static void promise33ThrowsThoughRefused() {
        for (int set : new int[] {0, 128, -1, MIN, MAX}) {
            Bounds.throwsArgument(Bounds::made, "ways() of an EMPTY one", x -> x.ways(4, set, 0));
            Bounds.throwsArgument(Bounds::made, "ways() where nobody has one", x -> x.ways(3, set, 0));
            Bounds.throwsArgument(Bounds::made, "ways() of too great a DEGREE", x -> x.ways(1, set, 0));
        }
    }

    @Bounds.Says("REFUSED, if the DEAL is EMPTY")
    static void promise33OfAnEmptyDeal() {
        Bounds.refused(Bounds::made, "ways() of the deal 4", x -> x.ways(4, 1, 0));
        Bounds.refused(Bounds::fresh, "ways() of the deal 0", x -> x.ways(0, 127, 0));
    }

    @Bounds.Says("the SET is not THERE")
    static void promise33NotThere() {
        Bounds.refused(Bounds::made, "ways() where nobody has one", x -> x.ways(3, 1, 5));
        Bounds.refused(() -> just(1, 2), "ways() by all, some lost it", x -> x.ways(0, 127, 4));
        Bounds.refused(() -> just(1, 2), "ways() by two, one lost it", x -> x.ways(0, 5, 4));
        Bounds.answers(() -> just(1, 2), "ways() by both others", 1, x -> x.ways(0, 3, 4));
    }

    @Bounds.Says("or p raised to the DEGREE of the DEAL (1 with DEGREE 0) is above 125, whichever the SET")
    static void promise33TooManyPolys() {
        // the least DEGREE that is too great, by WHICH: 625, 343, 1331, 169, 10201, 65537, 1000003
        int[] tooGreat = {4, 3, 3, 2, 2, 1, 1};
        for (int which = 0; which <= 6; which++) {
            int told = which;
            int all = (1 << Bounds.FIELDS[which][3]) - 1;
            for (int degree = tooGreat[which]; degree <= 6; degree++) {
                int one = degree;
                String call = "ways() with WHICH " + which + " and DEGREE " + degree;
                for (int set : new int[] {1, 3, 7, 15, all}) {
                    Bounds.refused(() -> ofDegree(told, one), call, x -> x.ways(0, set, 2));
                    Bounds.refused(() -> ofDegree(told, one), call, x -> x.ways(0, set, 1));
                }
            }
        }
    }

    @Bounds.Says("or p raised to the DEGREE of the DEAL (1 with DEGREE 0) is above 125")
    static void promise33JustNotTooManyPolys() {
        // the greatest DEGREE that is let, by WHICH: 125, 49, 121, 13, 101, 1, 1
        int[] greatest = {3, 2, 2, 1, 1, 0, 0};
        int[][] due = {{25, 5, 1}, {7, 1}, {11, 1}, {1}, {1}, {}, {}};
        for (int which = 0; which <= 6; which++) {
            int told = which;
            int degree = greatest[which];
            for (int n = 1; n <= degree; n++) {
                int set = (1 << n) - 1;
                String call = "ways() with WHICH " + which + " of " + n;
                Bounds.answers(() -> ofDegree(told, degree), call, due[which][n - 1], x -> x.ways(0, set, 4));
            }
            int enough = (2 << degree) - 1;
            String call = "ways() with WHICH " + which + " of DEGREE + 1";
            Bounds.answers(() -> ofDegree(told, degree), call, 1, x -> x.ways(0, enough, 2));
            Bounds.answers(() -> ofDegree(told, degree), call, 0, x -> x.ways(0, enough, 1));
        }
    }

    @Bounds.Says("Returns how many POLYS of the DEGREE of the DEAL have (number MOD p) as their NUMBER and the SHARES of"
        + " the SET as their VALUES")
    static void promise33AsManyHoldersAsTheDegreeAndMore() {
        Bounds.answers(Bounds::made, "ways() of one with DEGREE 1", 1, x -> x.ways(0, 1, 0));
        Bounds.answers(Bounds::made, "ways() of two, the number", 1, x -> x.ways(0, 96, 4));
        Bounds.answers(Bounds::made, "ways() of two, another number", 0, x -> x.ways(0, 96, 5));
        Bounds.answers(Bounds::made, "ways() of all, the number", 1, x -> x.ways(0, 127, 4));
        Bounds.answers(BoundaryAskedTest::oneWrong, "ways() of two, one wrong", 1, x -> x.ways(0, 3, 6));
        for (int number = 0; number <= 12; number++) {
            int one = number;
            Bounds.answers(BoundaryAskedTest::oneWrong, "ways() of three, one wrong", 0, x -> x.ways(0, 7, one));
        }
    }

    @Bounds.Says("number: any number")
    static void promise33NumbersRoundThePrime() {
        for (int number : new int[] {4, 17, -9, -22, 2147483641, -2147483633}) {
            Bounds.answers(Bounds::made, "ways() of " + number, 1, x -> x.ways(0, 127, number));
        }
        for (int number : new int[] {0, 13, -1, 5, MIN, MAX}) {
            Bounds.answers(Bounds::made, "ways() of " + number, 0, x -> x.ways(0, 127, number));
        }
        Secretshares x = new Secretshares();
        x.hide(0, 0, 2, 0, 0, 0);
        x.hide(1, 0, 10, 0, 0, 0);
        due("ways() of MIN, which is 2", x.ways(0, 64, MIN), 1);
        due("ways() of MAX, which is 10", x.ways(1, 127, MAX), 1);
        due("ways() of MAX, which is 10", x.ways(0, 127, MAX), 0);
    }

    @Bounds.Says("(1 with DEGREE 0)")
    static void promise33WithDegree0() {
        for (int which = 0; which <= 6; which++) {
            int told = which;
            int all = (1 << Bounds.FIELDS[which][3]) - 1;
            Bounds.answers(() -> ofDegree(told, 0), "ways() of one, the number", 1, x -> x.ways(0, 1, 2));
            Bounds.answers(() -> ofDegree(told, 0), "ways() of one, another", 0, x -> x.ways(0, 1, 3));
            Bounds.answers(() -> ofDegree(told, 0), "ways() of all, the number", 1, x -> x.ways(0, all, 2));
        }
    }

    // ---- 34

    @Bounds.Says("Throws IndexOutOfBoundsException if deal is not 0 to 5")
    static void promise34DealTooSmallOrTooLarge() {
        Bounds.dealBounds("total()", (x, deal) -> x.total(deal, 1));
    }

    @Bounds.Says("Throws IllegalArgumentException if set is not 1 to 2^M - 1")
    static void promise34SetTooSmallOrTooLarge() {
        Bounds.setBounds("total()", (x, set) -> x.total(0, set));
        Bounds.setBounds("total() of the last deal", (x, set) -> x.total(5, set));
    }

    @Bounds.Says("If several exceptions apply, the one that is named first is thrown")
    static void promise34NeitherDealNorSet() {
        neitherDealNorSet("total()", (x, deal) -> x.total(deal, 0));
        neitherDealNorSet("total()", (x, deal) -> x.total(deal, 128));
    }

    @Bounds.Says("exceptions go ahead of REFUSED")
    static void promise34ThrowsThoughRefused() {
        for (int set : new int[] {0, 128, -1, MIN, MAX}) {
            Bounds.throwsArgument(Bounds::made, "total() of an EMPTY one", x -> x.total(4, set));
            Bounds.throwsArgument(Bounds::made, "total() where nobody has one", x -> x.total(3, set));
        }
    }

    @Bounds.Says("REFUSED, if the DEAL is EMPTY")
    static void promise34OfAnEmptyDeal() {
        Bounds.refused(Bounds::made, "total() of the deal 4", x -> x.total(4, 1));
        Bounds.refused(Bounds::fresh, "total() of the deal 0", x -> x.total(0, 127));
    }

    @Bounds.Says("or the SET is not THERE")
    static void promise34NotThere() {
        Bounds.refused(Bounds::made, "total() of all, one lost it", x -> x.total(1, 127));
        Bounds.refused(Bounds::made, "total() of the one who lost it", x -> x.total(1, 8));
        Bounds.refused(Bounds::made, "total() where nobody has one", x -> x.total(3, 1));
        Bounds.answers(Bounds::made, "total() of all others", 53, x -> x.total(1, 119));
    }

    @Bounds.Says("Returns the sum of the SHARES of the SET (as it is, not MOD p)")
    static void promise34AboveThePrime() {
        Bounds.answers(Bounds::made, "total() of all", 47, x -> x.total(0, 127));
        Bounds.answers(Bounds::made, "total() that is p", 13, x -> x.total(0, 10 + 4));
        Bounds.answers(Bounds::made, "total() of one SHARE 0", 0, x -> x.total(0, 4));
        Secretshares x = with(6);
        x.hide(0, 0, -1, 0, 0, 0);
        due("total() of the greatest SHARES", x.total(0, 127), 7000014);
        x = with(0);
        x.hide(0, 0, -1, 0, 0, 0);
        due("total() of all four", x.total(0, 15), 16);
    }

    // ---- 35

    @Bounds.Says("Throws IndexOutOfBoundsException if deal is not 0 to 5")
    static void promise35DealTooSmallOrTooLarge() {
        Bounds.dealBounds("seal()", (x, deal) -> x.seal(deal, 0));
        Bounds.dealBounds("seal() behind the last one", (x, deal) -> x.seal(deal, 6));
    }

    @Bounds.Says("Throws IllegalArgumentException if k is not 0 to 6")
    static void promise35KTooSmallOrTooLarge() {
        for (int deal = 0; deal <= 5; deal++) {
            int one = deal;
            Bounds.upTo(6, "seal() of the deal " + deal, (x, k) -> x.seal(one, k));
        }
    }

    @Bounds.Says("If several exceptions apply, the one that is named first is thrown")
    static void promise35NeitherDealNorK() {
        for (int wrong : new int[] {-1, 7, MIN, MAX}) {
            Bounds.indexGoesFirst("seal(" + wrong + ", " + wrong + ")", x -> x.seal(wrong, wrong));
        }
    }

    @Bounds.Says("NONE without SEALS")
    static void promise35WithoutSeals() {
        for (int k = 0; k <= 6; k++) {
            int one = k;
            Bounds.answers(Bounds::made, "seal(2, " + k + ")", -1, x -> x.seal(2, one));
        }
    }

    @Bounds.Says("(also if the DEAL is EMPTY)")
    static void promise35OfAnEmptyDeal() {
        for (int k = 0; k <= 6; k++) {
            int one = k;
            Bounds.answers(Bounds::made, "seal(4, " + k + ")", -1, x -> x.seal(4, one));
            Bounds.answers(Bounds::fresh, "seal(0, " + k + ")", -1, x -> x.seal(0, one));
        }
    }

    @Bounds.Says("or if k is above DEGREE")
    static void promise35KAtTheDegreeAndAboveIt() {
        for (int degree = 0; degree <= 3; degree++) {
            Secretshares x = Bounds.made();
            x.hide(0, 3, 1, 1, 1, 1);
            x.hide(0, degree, 2, 2, 2, 2);
            for (int k = 0; k <= 6; k++) {
                due("seal " + k + " with DEGREE " + degree, x.seal(0, k), k <= degree ? 47 : -1);
            }
        }
    }

    // ---- 36

    @Bounds.Says("Throws IndexOutOfBoundsException if deal is not 0 to 5")
    static void promise36DealTooSmallOrTooLarge() {
        Bounds.dealBounds("fits()", (x, deal) -> x.fits(deal, 1));
    }

    @Bounds.Says("or holder not 1 to M")
    static void promise36HolderTooSmallOrTooLarge() {
        Bounds.holderBounds("fits()", (x, holder) -> x.fits(0, holder));
        Bounds.holderBounds("fits() in the last deal", (x, holder) -> x.fits(5, holder));
    }

    @Bounds.Says("exceptions go ahead of REFUSED")
    static void promise36ThrowsThoughRefused() {
        for (int holder : new int[] {0, 8, -1, MIN, MAX}) {
            Bounds.throwsIndex(Bounds::made, "fits() in an EMPTY one", x -> x.fits(4, holder));
            Bounds.throwsIndex(Bounds::made, "fits() without SEALS", x -> x.fits(2, holder));
            Bounds.throwsIndex(Bounds::made, "fits() where nobody has one", x -> x.fits(3, holder));
        }
    }

    @Bounds.Says("REFUSED, if the DEAL is EMPTY")
    static void promise36OfAnEmptyDeal() {
        Bounds.refused(Bounds::made, "fits() in the deal 4", x -> x.fits(4, 1));
        Bounds.refused(Bounds::fresh, "fits() in the deal 0", x -> x.fits(0, 7));
    }

    @Bounds.Says("has no SEALS")
    static void promise36WithoutSeals() {
        for (int holder = 1; holder <= 7; holder++) {
            int one = holder;
            Bounds.refused(Bounds::made, "fits() in the deal 2", x -> x.fits(2, one));
        }
    }

    @Bounds.Says("or the HOLDER has no SHARE.")
    static void promise36WithoutAShare() {
        Bounds.refused(Bounds::made, "fits() of one who lost it", x -> x.fits(1, 4));
        Bounds.answers(Bounds::made, "fits() of the one before", 1, x -> x.fits(1, 3));
        Bounds.answers(Bounds::made, "fits() of the one behind", 1, x -> x.fits(1, 5));
        for (int holder = 1; holder <= 7; holder++) {
            int one = holder;
            Bounds.refused(Bounds::made, "fits() where nobody has one", x -> x.fits(3, one));
        }
    }

    @Bounds.Says("g raised to s is, MOD q, the product of all e(k), each raised to h^k")
    static void promise36JustTheRightShare() {
        for (int holder = 1; holder <= 7; holder++) {
            for (int share = 0; share <= 12; share++) {
                Secretshares x = new Secretshares();
                x.hide(0, 3, 4, 3, 2, 5);
                boolean isRight = x.share(0, holder) == share;
                x.give(0, holder, share);
                due("fits() of " + share + " of " + holder, x.fits(0, holder), isRight ? 1 : 0);
            }
        }
    }

    @Bounds.Says("g raised to s is, MOD q, the product of all e(k), each raised to h^k")
    static void promise36ByEachPrime() {
        for (int which = 0; which <= 6; which++) {
            for (int degree = 0; degree <= 3; degree++) {
                Secretshares x = with(which);
                int last = Bounds.FIELDS[which][3];
                x.hide(0, degree, -1, -1, -1, -1);
                due("fits() of the first one", x.fits(0, 1), 1);
                due("fits() of the last one", x.fits(0, last), 1);
                x.give(0, last, x.share(0, last) + 1);
                due("fits() of one too great", x.fits(0, last), 0);
                x.give(0, last, x.share(0, last) - 2);
                due("fits() of one too small", x.fits(0, last), 0);
            }
        }
    }

    // ---- 37

    @Bounds.Says("Throws IndexOutOfBoundsException if first or second is not 0 to 5")
    static void promise37FirstOrSecondTooSmallOrTooLarge() {
        Bounds.dealBounds("order() of the first one", (x, deal) -> x.order(deal, 0, 1));
        Bounds.dealBounds("order() of the second one", (x, deal) -> x.order(0, deal, 1));
    }

    @Bounds.Says("or holder not 1 to M")
    static void promise37HolderTooSmallOrTooLarge() {
        Bounds.holderBounds("order()", (x, holder) -> x.order(0, 1, holder));
        Bounds.holderBounds("order() of the last deals", (x, holder) -> x.order(5, 5, holder));
    }

    @Bounds.Says("REFUSED, if there is none in the first or the second DEAL.")
    static void promise37NoneInOneOfBoth() {
        Bounds.refused(Bounds::made, "order(), none in the second one", x -> x.order(0, 1, 4));
        Bounds.refused(Bounds::made, "order(), none in the first one", x -> x.order(1, 0, 4));
        Bounds.refused(Bounds::made, "order(), none in both", x -> x.order(1, 3, 4));
        Bounds.refused(Bounds::made, "order(), none in one with itself", x -> x.order(1, 1, 4));
    }

    @Bounds.Says("REFUSED, if there is none in the first or the second DEAL.")
    static void promise37OfAnEmptyDeal() {
        Bounds.refused(Bounds::made, "order(), the second one EMPTY", x -> x.order(0, 4, 1));
        Bounds.refused(Bounds::made, "order(), the first one EMPTY", x -> x.order(4, 0, 1));
        Bounds.refused(Bounds::made, "order(), both EMPTY", x -> x.order(4, 5, 1));
        Bounds.refused(Bounds::fresh, "order(), of a new one", x -> x.order(0, 0, 7));
    }

    @Bounds.Says("exceptions go ahead of REFUSED")
    static void promise37ThrowsThoughRefused() {
        for (int wrong : new int[] {-1, 8, MIN, MAX}) {
            Bounds.throwsIndex(Bounds::made, "order() of an EMPTY one and of none", x -> x.order(4, wrong, 1));
            Bounds.throwsIndex(Bounds::made, "order() of none and of an EMPTY one", x -> x.order(wrong, 4, 1));
            Bounds.throwsIndex(Bounds::made, "order() of EMPTY ones", x -> x.order(4, 5, wrong));
        }
    }

    @Bounds.Says("Returns -1 if the SHARE of the HOLDER in the first DEAL, as a number of 0 to p - 1, is less than that in"
        + " the second one, 0 if both are the same number, 1 if it is greater")
    static void promise37AsNumbersOf0ToThePrimeLess1() {
        Secretshares x = new Secretshares();
        x.hide(0, 0, 0, 0, 0, 0);
        x.hide(1, 0, -1, 0, 0, 0);
        due("order() of 0 and p - 1", x.order(0, 1, 7), -1);
        due("order() of p - 1 and 0", x.order(1, 0, 7), 1);
        due("order() of one with itself", x.order(1, 1, 7), 0);
        x.give(0, 7, 11);
        due("order() of p - 2 and p - 1", x.order(0, 1, 7), -1);
        due("order() of p - 1 and p - 2", x.order(1, 0, 7), 1);
        x.give(0, 7, MIN + 10);
        due("order() of p - 1 and MIN + 10, which is that", x.order(1, 0, 7), 0);
        due("order() of the others", x.order(0, 1, 6), -1);
    }

    // ---- 38

    @Bounds.Says("Throws IndexOutOfBoundsException if deal is not 0 to 5")
    static void promise38DealTooSmallOrTooLarge() {
        Bounds.dealBounds("most() of the least", (x, deal) -> x.most(deal, true));
        Bounds.dealBounds("most() of the greatest", (x, deal) -> x.most(deal, false));
    }

    @Bounds.Says("REFUSED, if the DEAL is EMPTY.")
    static void promise38OfAnEmptyDeal() {
        for (boolean isLeast : new boolean[] {true, false}) {
            Bounds.refused(Bounds::made, "most(4)", x -> x.most(4, isLeast));
            Bounds.refused(Bounds::fresh, "most(0)", x -> x.most(0, isLeast));
        }
    }

    @Bounds.Says("0, if it is not EMPTY, and nobody has a SHARE")
    static void promise38NobodyHasAShare() {
        Bounds.answers(Bounds::made, "most(3), the least", 0, x -> x.most(3, true));
        Bounds.answers(Bounds::made, "most(3), the greatest", 0, x -> x.most(3, false));
    }

    @Bounds.Says("Returns the HOLDER who has it")
    static void promise38OneAlone() {
        for (int holder = 1; holder <= 7; holder++) {
            int one = holder;
            Bounds.answers(() -> just(one), "most() of one, the least", one, x -> x.most(0, true));
            Bounds.answers(() -> just(one), "most() of one, the greatest", one, x -> x.most(0, false));
        }
    }

    @Bounds.Says("of several the one with the smallest number")
    static void promise38Several() {
        Secretshares x = new Secretshares();
        x.hide(0, 0, 5, 0, 0, 0);
        due("most() of all alike, the least", x.most(0, true), 1);
        due("most() of all alike, the greatest", x.most(0, false), 1);
        x.lose(0, 1);
        due("most() of all alike, the first one lost it", x.most(0, true), 2);
        due("most() of all alike, the first one lost it", x.most(0, false), 2);
        x.give(0, 4, 6);
        x.give(0, 6, 6);
        x.give(0, 5, 4);
        x.give(0, 7, 4);
        due("most() of two, the greatest", x.most(0, false), 4);
        due("most() of two, the least", x.most(0, true), 5);
    }

    @Bounds.Says("(SHARES as the numbers 0 to p - 1)")
    static void promise38TheLeastAndTheGreatestShare() {
        for (int which = 0; which <= 6; which++) {
            int m = Bounds.FIELDS[which][3];
            for (int holder = 1; holder <= m; holder++) {
                Secretshares x = with(which);
                x.hide(0, 0, 2, 0, 0, 0);
                x.give(0, holder, -1);
                due("the greatest is p - 1, given as -1", x.most(0, false), holder);
                x.give(0, holder, 0);
                due("the least is 0", x.most(0, true), holder);
            }
        }
    }

    // ---- 39

    @Bounds.Says("Throws IndexOutOfBoundsException if deal is not 0 to 5")
    static void promise39DealTooSmallOrTooLarge() {
        Bounds.dealBounds("text()", Secretshares::text);
    }

    @Bounds.Says("\"\" if the DEAL is EMPTY.")
    static void promise39OfAnEmptyDeal() {
        Bounds.answers(Bounds::made, "text(4)", "", x -> x.text(4));
        Bounds.answers(Bounds::fresh, "text(0)", "", x -> x.text(0));
    }

    @Bounds.Says("\"-\" without one")
    static void promise39WithoutShares() {
        Bounds.answers(Bounds::made, "text(3)", "- - - - - - -", x -> x.text(3));
        Bounds.answers(Bounds::made, "text(1)", "10 10 11 - 3 7 12", x -> x.text(1));
        Bounds.answers(() -> just(2, 3, 4, 5, 6), "text() without the ends", "- 10 0 3 6 9 -", x -> x.text(0));
        Bounds.answers(() -> just(1, 7), "text() of the ends", "7 - - - - - 12", x -> x.text(0));
    }

    @Bounds.Says("HOLDER by HOLDER, from 1 to M, the SHARE in digits")
    static void promise39ByEachPrime() {
        String[] due = {"4 4 4 4", "6 6 6 6 6 6", "10 10 10 10 10 10 10", "12 12 12 12 12 12 12",
            "100 100 100 100 100 100 100", "65536 65536 65536 65536 65536 65536 65536",
            "1000002 1000002 1000002 1000002 1000002 1000002 1000002"};
        for (int which = 0; which <= 6; which++) {
            Secretshares x = with(which);
            x.hide(0, 0, -1, 0, 0, 0);
            due("text() with WHICH " + which, x.text(0), due[which]);
        }
    }

    // ---- 40

    @Bounds.Says("Throws IndexOutOfBoundsException if deal is not 0 to 5")
    static void promise40DealTooSmallOrTooLarge() {
        Bounds.dealBounds("seals()", Secretshares::seals);
    }

    @Bounds.Says("\"\" without SEALS (also if the DEAL is EMPTY)")
    static void promise40WithoutSealsOrEmpty() {
        Bounds.answers(Bounds::made, "seals(2)", "", x -> x.seals(2));
        Bounds.answers(Bounds::made, "seals(4)", "", x -> x.seals(4));
        Bounds.answers(Bounds::fresh, "seals(0)", "", x -> x.seals(0));
    }

    @Bounds.Says("Returns its SEALS in digits, from 0 on, with a blank between two")
    static void promise40OfTheLeastAndTheGreatestDegree() {
        Bounds.answers(Bounds::made, "seals() of one without SHARES", "42", x -> x.seals(3));
        Bounds.answers(Bounds::full, "seals() of DEGREE 0", "1", x -> x.seals(0));
        Bounds.answers(Bounds::full, "seals() of DEGREE 3", "46 47 46 36", x -> x.seals(3));
        Secretshares x = with(6);
        x.hide(0, 3, 0, -1, 4, 5);
        due("seals() with 1000003", x.seals(0), "1 14684255 33362176 15517746");
    }

    // ---- 41

    @Bounds.Says("Throws IndexOutOfBoundsException if first or second is not 0 to 5")
    static void promise41FirstOrSecondTooSmallOrTooLarge() {
        Bounds.dealBounds("isSame() of the first one", (x, deal) -> x.isSame(deal, 0));
        Bounds.dealBounds("isSame() of the second one", (x, deal) -> x.isSame(0, deal));
        for (int deal : new int[] {-1, 6, MIN, MAX}) {
            Bounds.throwsIndex(Bounds::made, "isSame() of an EMPTY one", x -> x.isSame(4, deal));
            Bounds.throwsIndex(Bounds::made, "isSame() of an EMPTY one", x -> x.isSame(deal, 4));
            Bounds.throwsIndex(Bounds::made, "isSame() of none twice", x -> x.isSame(deal, deal));
        }
    }

    @Bounds.Says("Returns whether both are EMPTY, or none of both")
    static void promise41OfEmptyDeals() {
        Bounds.answers(Bounds::made, "isSame() of both EMPTY", true, x -> x.isSame(4, 5));
        Bounds.answers(Bounds::made, "isSame() of an EMPTY one twice", true, x -> x.isSame(4, 4));
        for (int deal = 0; deal <= 3; deal++) {
            int one = deal;
            Bounds.answers(Bounds::made, "isSame(), the second one EMPTY", false, x -> x.isSame(one, 4));
            Bounds.answers(Bounds::made, "isSame(), the first one EMPTY", false, x -> x.isSame(4, one));
            Bounds.answers(Bounds::made, "isSame() of one twice", true, x -> x.isSame(one, one));
        }
    }

    @Bounds.Says("and then the DEGREES are the same")
    static void promise41JustTheDegreesDiffer() {
        Secretshares x = Bounds.made();
        x.hide(4, 2, 4, 3, 0, 0);
        due("text()", x.text(4), x.text(0));
        due("isSame() with another DEGREE", x.isSame(0, 4), false);
        due("isSame() with another DEGREE", x.isSame(4, 0), false);
        x.hide(5, 1, 5, 0, 0, 0);
        Bounds.loseAll(x, 5);
        due("isSame() of nobody with another DEGREE", x.isSame(3, 5), false);
    }

    @Bounds.Says("and each HOLDER has the same SHARE in both, or none in both")
    static void promise41JustOneShareDiffers() {
        for (int holder = 1; holder <= 7; holder++) {
            Secretshares x = Bounds.made();
            x.copy(0, 5);
            x.give(5, holder, x.share(0, holder) + 1);
            due("isSame() with another SHARE", x.isSame(0, 5), false);
            x.lose(5, holder);
            due("isSame() with one SHARE less", x.isSame(0, 5), false);
            due("isSame() with one SHARE more", x.isSame(5, 0), false);
            x.lose(0, holder);
            due("isSame() with none in both", x.isSame(0, 5), true);
            x.give(0, holder, 0);
            due("isSame() with 0 and none", x.isSame(0, 5), false);
        }
    }

    @Bounds.Says("or none in both")
    static void promise41NobodyHasAShareInBoth() {
        Secretshares x = Bounds.made();
        x.copy(3, 5);
        Check.answers(x, "isSame() of nobody", true, () -> x.isSame(3, 5));
    }

    @Bounds.Says("(SEALS do not matter)")
    static void promise41JustTheSealsDiffer() {
        Secretshares x = Bounds.made();
        x.hide(4, 0, 1, 0, 0, 0);
        x.times(0, 4, 5);
        due("seals()", x.seals(5), "");
        due("isSame() with and without SEALS", x.isSame(0, 5), true);
        due("isSame() without and with SEALS", x.isSame(5, 0), true);
        x.hide(4, 1, 1, 1, 0, 0);
        for (int holder = 1; holder <= 7; holder++) {
            x.give(4, holder, x.share(0, holder));
        }
        due("seals()", x.seals(4), "10 10");
        due("isSame() with other SEALS", x.isSame(0, 4), true);
    }
}
