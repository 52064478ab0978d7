/** Boundary cases of promises 10 to 23: what is done with deals. A test for each sentence. */
public final class BoundaryDoneTest {
    private static final int MIN = Bounds.MIN;
    private static final int MAX = Bounds.MAX;

    private BoundaryDoneTest() {
    }

    public static void main(String[] args) throws IllegalAccessException {
        Bounds.run(BoundaryDoneTest.class, 10, 23);
    }

    private static void due(String call, Object got, Object want) {
        Check.due(call, got, want);
    }

    private static Secretshares with(int which) {
        Secretshares x = new Secretshares();
        x.prime(which);
        return x;
    }

    /** In the DEAL 4 of made(): DEGREE 6, the SHARES those of the DEAL 3 of this DEGREE 3: xxx, squared. */
    private static Secretshares sixth() {
        Secretshares x = Bounds.made();
        x.hide(4, 3, 0, 0, 0, 1);
        x.times(4, 4, 4);
        return x;
    }

    // ---- 10

    @Bounds.Says("Throws IndexOutOfBoundsException if deal is not 0 to 5")
    static void promise10DealTooSmallOrTooLarge() {
        Bounds.dealBounds("hide()", (x, deal) -> x.hide(deal, 1, 1, 1, 1, 1));
    }

    @Bounds.Says("Throws IllegalArgumentException if degree is not 0 to 3")
    static void promise10DegreeTooSmallOrTooLarge() {
        Bounds.upTo(3, "hide()", (x, degree) -> x.hide(0, degree, 1, 1, 1, 1));
    }

    @Bounds.Says("If several exceptions apply, the one that is named first is thrown")
    static void promise10NeitherDealNorDegree() {
        for (int deal : new int[] {-1, 6, MIN, MAX}) {
            for (int degree : new int[] {-1, 4, MIN, MAX}) {
                Bounds.indexGoesFirst("hide(" + deal + ", " + degree + ")", x -> x.hide(deal, degree, 1, 1, 1, 1));
            }
        }
    }

    @Bounds.Says("its COEFFICIENTS are these MOD p, from c(0) on, as far as the DEGREE goes (what is beyond it is not"
        + " looked at; those behind d are 0)")
    static void promise10BeyondTheDegree() {
        String[] shares = {"4 4 4 4 4 4 4", "7 10 0 3 6 9 12", "9 5 5 9 4 3 6", "1 6 10 4 5 4 5"};
        String[] seals = {"36", "36 46", "36 46 47", "36 46 47 42"};
        for (int degree = 0; degree <= 3; degree++) {
            Secretshares x = new Secretshares();
            int b = degree < 1 ? MIN : 3;
            int c = degree < 2 ? MAX : 2;
            int d = degree < 3 ? -1 : 5;
            due("hide() with DEGREE " + degree, x.hide(0, degree, 4, b, c, d), 7);
            Bounds.dealIs(x, 0, degree, shares[degree], seals[degree]);
        }
    }

    @Bounds.Says("its COEFFICIENTS are these MOD p")
    static void promise10NumbersFarFromThePrime() {
        for (int far : new int[] {-26, -13, 0, 13, 26, 2147483624 - 13}) {
            Secretshares x = new Secretshares();
            x.hide(0, 3, far + 4, far + 3, far + 2, far + 5);
            Bounds.dealIs(x, 0, 3, "1 6 10 4 5 4 5", "36 46 47 42");
        }
        Secretshares x = new Secretshares();
        x.hide(0, 3, MIN, MAX, MIN, MAX);
        Bounds.dealIs(x, 0, 3, "11 6 8 12 0 6 12", "47 15 47 15");
        x.hide(0, 3, -1, -13, 13, 12);
        Bounds.dealIs(x, 0, 3, "11 4 11 0 4 4 7", "16 1 1 16");
    }

    @Bounds.Says("(d is a bound: the last ones may be 0)")
    static void promise10CoefficientsOf0() {
        Secretshares x = new Secretshares();
        x.hide(0, 3, 0, 0, 0, 0);
        Bounds.dealIs(x, 0, 3, "0 0 0 0 0 0 0", "1 1 1 1");
        x.hide(0, 3, 4, 3, 13, -13);
        Bounds.dealIs(x, 0, 3, "7 10 0 3 6 9 12", "36 46 1 1");
    }

    @Bounds.Says("LAID into a DEAL: that has then what is told, whatever it had")
    static void promise10WhateverItHad() {
        for (int deal = 0; deal <= 5; deal++) {
            int into = deal;
            Secretshares x = Bounds.made();
            Bounds.changesJust(x, deal, "hide()", 7, y -> y.hide(into, 0, 5, 1, 1, 1));
            Bounds.dealIs(x, deal, 0, "5 5 5 5 5 5 5", "42");
            Secretshares other = Bounds.made();
            Bounds.changesJust(other, deal, "hide()", 7, y -> y.hide(into, 3, 4, 3, 2, 5));
            Bounds.dealIs(other, deal, 3, "1 6 10 4 5 4 5", "36 46 47 42");
        }
        Secretshares x = sixth();
        x.hide(4, 1, 4, 3, 0, 0);
        Bounds.dealIs(x, 4, 1, "7 10 0 3 6 9 12", "36 46");
    }

    @Bounds.Says("Returns how many SHARES there are.")
    static void promise10AsManySharesAsHolders() {
        for (int which = 0; which <= 6; which++) {
            Secretshares x = with(which);
            due("hide() with WHICH " + which, x.hide(5, 3, 1, 0, 0, 0), which == 0 ? 4 : which == 1 ? 6 : 7);
            due("how many SHARES", x.ofDeal(5, 1), Bounds.FIELDS[which][3]);
        }
    }

    @Bounds.Says("for all HOLDERS the VALUES of the POLY of a, b, c and d, and its SEALS")
    static void promise10ByTheLeastAndTheGreatestPrime() {
        Secretshares x = with(0);
        x.hide(0, 3, 4, 4, 4, 4);
        Bounds.dealIs(x, 0, 3, "1 0 0 0", "4 4 4 4");
        x = with(6);
        x.hide(0, 3, -1, -1, -1, -1);
        Bounds.dealIs(x, 0, 3, "999999 999988 999963 999918 999847 999744 999603",
            "14684255 14684255 14684255 14684255");
    }

    // ---- 11

    @Bounds.Says("Throws IndexOutOfBoundsException if deal is not 0 to 5")
    static void promise11DealTooSmallOrTooLarge() {
        Bounds.dealBounds("pour()", (x, deal) -> x.pour(deal, 1, 1, 1, 1));
    }

    @Bounds.Says("REFUSED, if the DEAL is EMPTY.")
    static void promise11IntoAnEmptyDeal() {
        Bounds.refused(Bounds::made, "pour() into the deal 4", x -> x.pour(4, 1, 2, 3, 4));
        Bounds.refused(Bounds::made, "pour() into the deal 5", x -> x.pour(5, 0, 0, 0, 0));
        Bounds.refused(Bounds::fresh, "pour() into the deal 0", x -> x.pour(0, MIN, MAX, MIN, MAX));
    }

    @Bounds.Says("to each SHARE that is there its VALUE at that place is added, MOD p")
    static void promise11ALostShareStaysLost() {
        Secretshares x = Bounds.made();
        Bounds.changesJust(x, 1, "pour()", 6, y -> y.pour(1, 1, 0, 0, 0));
        Bounds.dealIs(x, 1, 2, "11 11 12 - 4 8 0", "16 42 13");
    }

    @Bounds.Says("Returns how many SHARES there are")
    static void promise11NobodyHasAShare() {
        Secretshares x = Bounds.made();
        Bounds.changesJust(x, 3, "pour() without SHARES", 0, y -> y.pour(3, 1, 9, 9, 9));
        Bounds.dealIs(x, 3, 0, "- - - - - - -", "49");
    }

    @Bounds.Says("each SEAL, if there are any, is multiplied by that of the POLY, MOD q")
    static void promise11WithoutSeals() {
        Secretshares x = Bounds.made();
        Bounds.changesJust(x, 2, "pour() without SEALS", 7, y -> y.pour(2, 0, 1, 0, 9));
        Bounds.dealIs(x, 2, 2, "11 11 3 0 2 9 8", "");
        due("whether it has SEALS", x.ofDeal(2, 3), 0);
    }

    @Bounds.Says("its VALUE at that place is added, MOD p")
    static void promise11RoundThePrime() {
        Secretshares x = new Secretshares();
        x.hide(0, 0, 12, 0, 0, 0);
        due("pour() of 1", x.pour(0, 1, 0, 0, 0), 7);
        Bounds.dealIs(x, 0, 0, "0 0 0 0 0 0 0", "1");
        due("pour() of -1", x.pour(0, -1, 0, 0, 0), 7);
        Bounds.dealIs(x, 0, 0, "12 12 12 12 12 12 12", "16");
        due("pour() of 12", x.pour(0, 12, 0, 0, 0), 7);
        Bounds.dealIs(x, 0, 0, "11 11 11 11 11 11 11", "44");
        due("pour() of 13", x.pour(0, 13, 0, 0, 0), 7);
        Bounds.dealIs(x, 0, 0, "11 11 11 11 11 11 11", "44");
    }

    @Bounds.Says("a: any number")
    static void promise11FarthestNumbers() {
        Secretshares x = Bounds.made();
        Bounds.changesJust(x, 0, "pour()", 7, y -> y.pour(0, MIN, MAX, 1, 1));
        // 2 + 10x is poured in
        Bounds.dealIs(x, 0, 1, "6 6 6 6 6 6 6", "49 1");
        x = with(6);
        x.hide(0, 3, 0, 0, 0, 0);
        x.pour(0, MIN, MAX, MIN, MAX);
        Bounds.dealIs(x, 0, 3, "1000001 386019 544083 337417 629251 282809 161321", "6815081 16647158 6815081 16647158");
    }

    @Bounds.Says("as far as the DEGREE goes (what is beyond it is not looked at; those behind d are 0)")
    static void promise11BeyondTheDegree() {
        Secretshares x = new Secretshares();
        x.hide(0, 0, 5, 0, 0, 0);
        x.pour(0, 1, MIN, MAX, -1);
        Bounds.dealIs(x, 0, 0, "6 6 6 6 6 6 6", "49");
        x.hide(0, 2, 0, 0, 0, 0);
        x.pour(0, 4, 3, 2, MAX);
        Bounds.dealIs(x, 0, 2, "9 5 5 9 4 3 6", "36 46 47");
        x.hide(0, 3, 0, 0, 0, 0);
        x.pour(0, 4, 3, 2, 5);
        Bounds.dealIs(x, 0, 3, "1 6 10 4 5 4 5", "36 46 47 42");
    }

    @Bounds.Says("those behind d are 0")
    static void promise11WithDegree6() {
        Secretshares x = Bounds.made();
        x.hide(4, 3, 0, 0, 0, 0);
        x.times(4, 4, 4);
        Bounds.changesJust(x, 4, "pour() with DEGREE 6", 7, y -> y.pour(4, 4, 3, 2, 5));
        Bounds.dealIs(x, 4, 6, "1 6 10 4 5 4 5", "");
    }

    // ---- 12 and 13

    @Bounds.Says("Throws IndexOutOfBoundsException if first, second or to is not 0 to 5")
    static void promise12FirstSecondOrToTooSmallOrTooLarge() {
        Bounds.dealBounds("plus() of the first one", (x, deal) -> x.plus(deal, 0, 0));
        Bounds.dealBounds("plus() of the second one", (x, deal) -> x.plus(0, deal, 0));
        Bounds.dealBounds("plus() into one", (x, deal) -> x.plus(0, 0, deal));
    }

    @Bounds.Says("exceptions go ahead of REFUSED")
    static void promise12ThrowsThoughEmpty() {
        for (int deal : new int[] {-1, 6, MIN, MAX}) {
            Bounds.throwsIndex(Bounds::made, "plus(4, 5, " + deal + ")", x -> x.plus(4, 5, deal));
            Bounds.throwsIndex(Bounds::made, "plus(4, " + deal + ", 0)", x -> x.plus(4, deal, 0));
            Bounds.throwsIndex(Bounds::made, "plus(" + deal + ", 4, 0)", x -> x.plus(deal, 4, 0));
        }
    }

    @Bounds.Says("REFUSED, if the first or the second DEAL is EMPTY.")
    static void promise12OfAnEmptyDeal() {
        Bounds.refused(Bounds::made, "plus() of the first one EMPTY", x -> x.plus(4, 0, 1));
        Bounds.refused(Bounds::made, "plus() of the second one EMPTY", x -> x.plus(0, 4, 1));
        Bounds.refused(Bounds::made, "plus() of both EMPTY", x -> x.plus(4, 5, 1));
        Bounds.refused(Bounds::made, "plus() of an EMPTY one twice", x -> x.plus(5, 5, 0));
        Bounds.refused(Bounds::made, "plus() of an EMPTY one into it", x -> x.plus(0, 4, 4));
        Bounds.refused(Bounds::fresh, "plus() of a new one", x -> x.plus(0, 1, 2));
    }

    @Bounds.Says("LAID into a DEAL: that has then what is told, whatever it had")
    static void promise12IntoEachDeal() {
        for (int deal = 0; deal <= 5; deal++) {
            int to = deal;
            Secretshares x = Bounds.made();
            Bounds.changesJust(x, to, "plus() into " + to, 6, y -> y.plus(0, 1, to));
            Bounds.dealIs(x, to, 2, "4 7 11 - 9 3 11", "47 24 13");
        }
    }

    @Bounds.Says("for each HOLDER who has SHARES in both the sum of both MOD p (none for the others)")
    static void promise12JustWhoHasSharesInBoth() {
        Secretshares x = Bounds.made();
        x.lose(0, 1);
        x.lose(1, 7);
        Bounds.changesJust(x, 2, "plus()", 4, y -> y.plus(0, 1, 2));
        Bounds.dealIs(x, 2, 2, "- 7 11 - 9 3 -", "47 24 13");
        Bounds.changesJust(x, 2, "plus(), the other way round", 4, y -> y.plus(1, 0, 2));
        Bounds.dealIs(x, 2, 2, "- 7 11 - 9 3 -", "47 24 13");
    }

    @Bounds.Says("Returns how many SHARES it has then")
    static void promise12NobodyHasSharesInBoth() {
        Secretshares x = Bounds.made();
        Bounds.changesJust(x, 5, "plus() with nobody", 0, y -> y.plus(0, 3, 5));
        Bounds.dealIs(x, 5, 1, "- - - - - - -", "28 46");
        Bounds.lose(x, 0, 1, 2, 3);
        Bounds.lose(x, 1, 5, 6, 7);
        Bounds.changesJust(x, 2, "plus() of some and of others", 0, y -> y.plus(1, 0, 2));
        Bounds.dealIs(x, 2, 2, "- - - - - - -", "47 24 13");
    }

    @Bounds.Says("the sum of both MOD p")
    static void promise12RoundThePrime() {
        for (int which = 0; which <= 6; which++) {
            Secretshares x = with(which);
            int p = Bounds.FIELDS[which][0];
            x.hide(0, 0, -1, 0, 0, 0);
            x.hide(1, 0, 1, 0, 0, 0);
            x.plus(0, 0, 2);
            due("p - 1 and p - 1", x.share(2, 1), p - 2);
            x.plus(0, 1, 2);
            due("p - 1 and 1", x.share(2, 1), 0);
            due("the SEAL of it", x.seals(2), "1");
        }
    }

    @Bounds.Says("LAID into a DEAL are the greater one of both DEGREES")
    static void promise12TheGreaterDegree() {
        for (int first = 0; first <= 3; first++) {
            for (int second = 0; second <= 3; second++) {
                Secretshares x = new Secretshares();
                x.hide(0, first, 1, 1, 1, 1);
                x.hide(1, second, 1, 1, 1, 1);
                x.plus(0, 1, 2);
                due("DEGREE of " + first + " and " + second, x.ofDeal(2, 0), Math.max(first, second));
                due("SEAL at the DEGREE", x.seal(2, Math.max(first, second)), first == second ? 47 : 10);
                due("SEAL behind the DEGREE", x.seal(2, Math.max(first, second) + 1), -1);
            }
        }
        Secretshares x = sixth();
        x.plus(0, 4, 5);
        due("DEGREE of 1 and 6", x.ofDeal(5, 0), 6);
        x.plus(4, 0, 5);
        due("DEGREE of 6 and 1", x.ofDeal(5, 0), 6);
    }

    @Bounds.Says("where just one of both DEALS has a SEAL k, that SEAL itself")
    static void promise12SealsOfJustOne() {
        Secretshares x = new Secretshares();
        x.hide(0, 0, 12, 0, 0, 0);
        x.hide(1, 3, 1, 5, 6, 7);
        x.plus(0, 1, 2);
        due("just the second one has it", x.seals(2), "1 42 49 13");
        x.plus(1, 0, 3);
        due("just the first one has it", x.seals(3), "1 42 49 13");
    }

    @Bounds.Says("if both have SEALS, SEALS")
    static void promise12WithoutSealsOfTheFirstOrTheSecond() {
        Secretshares x = Bounds.made();
        due("plus(), the first one without", x.plus(2, 0, 4), 7);
        Bounds.dealIs(x, 4, 2, "4 6 0 12 3 12 0", "");
        due("plus(), the second one without", x.plus(0, 2, 5), 7);
        Bounds.dealIs(x, 5, 2, "4 6 0 12 3 12 0", "");
        due("plus(), both without", x.plus(2, 2, 3), 7);
        Bounds.dealIs(x, 3, 2, "7 5 0 5 7 6 2", "");
        due("plus() into one with SEALS", x.plus(2, 1, 1), 6);
        Bounds.dealIs(x, 1, 2, "7 6 11 - 0 10 0", "");
        due("whether it has SEALS", x.ofDeal(1, 3), 0);
    }

    @Bounds.Says("both may be the same DEAL (what is reckoned is reckoned of what was there ahead of the call)")
    static void promise12TheSameDeals() {
        Secretshares x = Bounds.made();
        Bounds.changesJust(x, 0, "plus(0, 0, 0)", 7, y -> y.plus(0, 0, 0));
        Bounds.dealIs(x, 0, 1, "1 7 0 6 12 5 11", "24 49");
        x = Bounds.made();
        Bounds.changesJust(x, 0, "plus(0, 1, 0)", 6, y -> y.plus(0, 1, 0));
        Bounds.dealIs(x, 0, 2, "4 7 11 - 9 3 11", "47 24 13");
        x = Bounds.made();
        Bounds.changesJust(x, 1, "plus(0, 1, 1)", 6, y -> y.plus(0, 1, 1));
        Bounds.dealIs(x, 1, 2, "4 7 11 - 9 3 11", "47 24 13");
    }

    @Bounds.Says("Throws IndexOutOfBoundsException if first, second or to is not 0 to 5")
    static void promise13FirstSecondOrToTooSmallOrTooLarge() {
        Bounds.dealBounds("less() of the first one", (x, deal) -> x.less(deal, 0, 0));
        Bounds.dealBounds("less() of the second one", (x, deal) -> x.less(0, deal, 0));
        Bounds.dealBounds("less() into one", (x, deal) -> x.less(0, 0, deal));
    }

    @Bounds.Says("exceptions go ahead of REFUSED")
    static void promise13ThrowsThoughEmpty() {
        for (int deal : new int[] {-1, 6, MIN, MAX}) {
            Bounds.throwsIndex(Bounds::made, "less(4, 5, " + deal + ")", x -> x.less(4, 5, deal));
            Bounds.throwsIndex(Bounds::made, "less(4, " + deal + ", 0)", x -> x.less(4, deal, 0));
            Bounds.throwsIndex(Bounds::made, "less(" + deal + ", 4, 0)", x -> x.less(deal, 4, 0));
        }
    }

    @Bounds.Says("REFUSED, if the first or the second DEAL is EMPTY.")
    static void promise13OfAnEmptyDeal() {
        Bounds.refused(Bounds::made, "less() of the first one EMPTY", x -> x.less(4, 0, 1));
        Bounds.refused(Bounds::made, "less() of the second one EMPTY", x -> x.less(0, 4, 1));
        Bounds.refused(Bounds::made, "less() of both EMPTY", x -> x.less(4, 5, 1));
        Bounds.refused(Bounds::made, "less() of an EMPTY one twice", x -> x.less(5, 5, 0));
        Bounds.refused(Bounds::made, "less() of an EMPTY one into it", x -> x.less(0, 4, 4));
        Bounds.refused(Bounds::fresh, "less() of a new one", x -> x.less(0, 1, 2));
    }

    @Bounds.Says("as plus(), but with the SHARES of the first DEAL less those of the second one, MOD p")
    static void promise13IntoEachDeal() {
        for (int deal = 0; deal <= 5; deal++) {
            int to = deal;
            Secretshares x = Bounds.made();
            Bounds.changesJust(x, to, "less() into " + to, 6, y -> y.less(0, 1, to));
            Bounds.dealIs(x, to, 2, "10 0 2 - 3 2 0", "49 44 49");
            x = Bounds.made();
            Bounds.changesJust(x, to, "less() into " + to, 6, y -> y.less(1, 0, to));
            Bounds.dealIs(x, to, 2, "3 0 11 - 10 11 0", "13 47 13");
        }
    }

    @Bounds.Says("as plus(), but with the SHARES of the first DEAL less those of the second one, MOD p")
    static void promise13JustWhoHasSharesInBoth() {
        Secretshares x = Bounds.made();
        x.lose(0, 1);
        x.lose(1, 7);
        Bounds.changesJust(x, 2, "less()", 4, y -> y.less(0, 1, 2));
        Bounds.dealIs(x, 2, 2, "- 0 2 - 3 2 -", "49 44 49");
        Bounds.changesJust(x, 5, "less() of nobody", 0, y -> y.less(3, 0, 5));
        Bounds.dealIs(x, 5, 1, "- - - - - - -", "10 15");
    }

    @Bounds.Says("the SHARES of the first DEAL less those of the second one, MOD p")
    static void promise13RoundThePrime() {
        for (int which = 0; which <= 6; which++) {
            Secretshares x = with(which);
            int p = Bounds.FIELDS[which][0];
            x.hide(0, 0, 0, 0, 0, 0);
            x.hide(1, 0, -1, 0, 0, 0);
            x.less(0, 1, 2);
            due("0 less p - 1", x.share(2, 1), 1);
            due("the SEAL of it", x.seal(2, 0), Bounds.FIELDS[which][2]);
            x.less(1, 0, 2);
            due("p - 1 less 0", x.share(2, 1), p - 1);
            x.less(1, 1, 2);
            due("p - 1 less p - 1", x.share(2, 1), 0);
            due("the SEAL of it", x.seal(2, 0), 1);
        }
    }

    @Bounds.Says("in the place of each SEAL of the second DEAL, the number of 1 to q - 1 that, times it, is 1 MOD q")
    static void promise13SealsOfJustOne() {
        Secretshares x = new Secretshares();
        x.hide(0, 0, 12, 0, 0, 0);
        x.hide(1, 3, 1, 5, 6, 0);
        x.less(0, 1, 2);
        // by the exponents 12 - 1, -5, -6, 0
        Bounds.dealIs(x, 2, 3, "0 3 7 12 5 12 7", "44 24 13 1");
        x.less(1, 0, 3);
        Bounds.dealIs(x, 3, 3, "0 10 6 1 8 1 6", "47 42 49 1");
    }

    @Bounds.Says("as plus()")
    static void promise13WithoutSealsOfTheFirstOrTheSecond() {
        Secretshares x = Bounds.made();
        due("less(), the first one without", x.less(2, 0, 4), 7);
        Bounds.dealIs(x, 4, 2, "3 12 0 6 4 7 2", "");
        due("less(), the second one without", x.less(0, 2, 5), 7);
        Bounds.dealIs(x, 5, 2, "10 1 0 7 9 6 11", "");
        due("less() into one with SEALS", x.less(2, 1, 1), 6);
        Bounds.dealIs(x, 1, 2, "0 12 2 - 7 9 2", "");
        due("less(), both without", x.less(2, 2, 0), 7);
        Bounds.dealIs(x, 0, 2, "0 0 0 0 0 0 0", "");
    }

    @Bounds.Says("both may be the same DEAL (what is reckoned is reckoned of what was there ahead of the call)")
    static void promise13TheSameDeals() {
        Secretshares x = Bounds.made();
        Bounds.changesJust(x, 1, "less(1, 1, 1)", 6, y -> y.less(1, 1, 1));
        Bounds.dealIs(x, 1, 2, "0 0 0 - 0 0 0", "1 1 1");
        x = Bounds.made();
        Bounds.changesJust(x, 0, "less(0, 1, 0)", 6, y -> y.less(0, 1, 0));
        Bounds.dealIs(x, 0, 2, "10 0 2 - 3 2 0", "49 44 49");
    }

    // ---- 14

    @Bounds.Says("Throws IndexOutOfBoundsException if first, second or to is not 0 to 5")
    static void promise14FirstSecondOrToTooSmallOrTooLarge() {
        Bounds.dealBounds("times() of the first one", (x, deal) -> x.times(deal, 0, 0));
        Bounds.dealBounds("times() of the second one", (x, deal) -> x.times(0, deal, 0));
        Bounds.dealBounds("times() into one", (x, deal) -> x.times(0, 0, deal));
    }

    @Bounds.Says("exceptions go ahead of REFUSED")
    static void promise14ThrowsThoughEmptyOrAbove6() {
        for (int deal : new int[] {-1, 6, MIN, MAX}) {
            Bounds.throwsIndex(Bounds::made, "times(4, 5, " + deal + ")", x -> x.times(4, 5, deal));
            Bounds.throwsIndex(Bounds::made, "times(4, " + deal + ", 0)", x -> x.times(4, deal, 0));
            Bounds.throwsIndex(Bounds::made, "times(" + deal + ", 4, 0)", x -> x.times(deal, 4, 0));
            Bounds.throwsIndex(BoundaryDoneTest::sixth, "times(4, 4, " + deal + ")", x -> x.times(4, 4, deal));
        }
    }

    @Bounds.Says("REFUSED, if the first or the second DEAL is EMPTY")
    static void promise14OfAnEmptyDeal() {
        Bounds.refused(Bounds::made, "times() of the first one EMPTY", x -> x.times(4, 0, 1));
        Bounds.refused(Bounds::made, "times() of the second one EMPTY", x -> x.times(0, 4, 1));
        Bounds.refused(Bounds::made, "times() of both EMPTY", x -> x.times(4, 5, 1));
        Bounds.refused(Bounds::made, "times() of an EMPTY one twice", x -> x.times(5, 5, 0));
        Bounds.refused(Bounds::made, "times() of an EMPTY one into it", x -> x.times(0, 4, 4));
        Bounds.refused(Bounds::fresh, "times() of a new one", x -> x.times(0, 1, 2));
    }

    @Bounds.Says("or the sum of their DEGREES is above 6")
    static void promise14DegreesAbove6() {
        Bounds.refused(BoundaryDoneTest::sixth, "times(), 6 and 1", x -> x.times(4, 0, 5));
        Bounds.refused(BoundaryDoneTest::sixth, "times(), 1 and 6", x -> x.times(0, 4, 5));
        Bounds.refused(BoundaryDoneTest::sixth, "times(), 6 and 2", x -> x.times(4, 1, 1));
        Bounds.refused(BoundaryDoneTest::sixth, "times(), 6 and 6", x -> x.times(4, 4, 4));
        Secretshares x = new Secretshares();
        x.hide(0, 3, 1, 1, 1, 1);
        x.hide(1, 1, 1, 1, 1, 1);
        due("times(), 3 and 1", x.times(0, 1, 2), 7);
        Check.refused(x, "times(), 4 and 3", () -> x.times(2, 0, 3));
        Check.refused(x, "times(), 3 and 4", () -> x.times(0, 2, 3));
    }

    @Bounds.Says("or the sum of their DEGREES is above 6")
    static void promise14DegreesOfJust6() {
        for (int[] degrees : new int[][] {{3, 3}, {6, 0}, {0, 6}, {4, 2}, {2, 4}, {5, 1}, {1, 5}}) {
            Secretshares x = new Secretshares();
            for (int i = 0; i <= 1; i++) {
                int first = Math.min(3, degrees[i]);
                x.hide(i, first, 2, 0, 0, 0);
                x.hide(2, degrees[i] - first, 1, 0, 0, 0);
                x.times(i, 2, i);
                due("DEGREE to begin with", x.ofDeal(i, 0), degrees[i]);
            }
            due("times(), " + degrees[0] + " and " + degrees[1], x.times(0, 1, 3), 7);
            Bounds.dealIs(x, 3, 6, "4 4 4 4 4 4 4", "");
        }
    }

    @Bounds.Says("and no SEALS")
    static void promise14NoSealsWhateverItHad() {
        for (int deal = 0; deal <= 5; deal++) {
            int to = deal;
            Secretshares x = Bounds.made();
            Bounds.changesJust(x, to, "times() into " + to, 6, y -> y.times(0, 1, to));
            Bounds.dealIs(x, to, 3, "5 9 0 - 5 11 1", "");
            due("whether it has SEALS", x.ofDeal(to, 3), 0);
            due("SEAL 0", x.seal(to, 0), -1);
        }
    }

    @Bounds.Says("for each HOLDER who has SHARES in both the product of both MOD p (none for the others)")
    static void promise14JustWhoHasSharesInBoth() {
        Secretshares x = Bounds.made();
        x.lose(0, 1);
        x.lose(1, 7);
        Bounds.changesJust(x, 2, "times()", 4, y -> y.times(0, 1, 2));
        Bounds.dealIs(x, 2, 3, "- 9 0 - 5 11 -", "");
        Bounds.changesJust(x, 2, "times() of nobody", 0, y -> y.times(0, 3, 2));
        Bounds.dealIs(x, 2, 1, "- - - - - - -", "");
    }

    @Bounds.Says("the product of both MOD p")
    static void promise14RoundThePrime() {
        for (int which = 0; which <= 6; which++) {
            Secretshares x = with(which);
            int p = Bounds.FIELDS[which][0];
            x.hide(0, 0, -1, 0, 0, 0);
            x.hide(1, 0, 2, 0, 0, 0);
            x.times(0, 0, 2);
            due("p - 1 times p - 1", x.share(2, 1), 1);
            x.times(0, 1, 3);
            due("p - 1 times 2", x.share(3, 1), p - 2);
        }
    }

    @Bounds.Says("both may be the same DEAL (what is reckoned is reckoned of what was there ahead of the call)")
    static void promise14TheSameDeals() {
        Secretshares x = Bounds.made();
        Bounds.changesJust(x, 0, "times(0, 0, 0)", 7, y -> y.times(0, 0, 0));
        Bounds.dealIs(x, 0, 2, "10 9 0 9 10 3 1", "");
        x = Bounds.made();
        Bounds.changesJust(x, 1, "times(1, 0, 1)", 6, y -> y.times(1, 0, 1));
        Bounds.dealIs(x, 1, 3, "5 9 0 - 5 11 1", "");
    }

    // ---- 15

    @Bounds.Says("Throws IndexOutOfBoundsException if deal or to is not 0 to 5")
    static void promise15DealOrToTooSmallOrTooLarge() {
        Bounds.dealBounds("scale()", (x, deal) -> x.scale(deal, 2, 0));
        Bounds.dealBounds("scale() into one", (x, deal) -> x.scale(0, 2, deal));
    }

    @Bounds.Says("exceptions go ahead of REFUSED")
    static void promise15ThrowsThoughEmpty() {
        for (int deal : new int[] {-1, 6, MIN, MAX}) {
            Bounds.throwsIndex(Bounds::made, "scale(4, 2, " + deal + ")", x -> x.scale(4, 2, deal));
        }
    }

    @Bounds.Says("REFUSED, if the first one is EMPTY.")
    static void promise15OfAnEmptyDeal() {
        Bounds.refused(Bounds::made, "scale(4, 2, 0)", x -> x.scale(4, 2, 0));
        Bounds.refused(Bounds::made, "scale(5, 0, 4)", x -> x.scale(5, 0, 4));
        Bounds.refused(Bounds::made, "scale(4, 1, 4)", x -> x.scale(4, 1, 4));
        Bounds.refused(Bounds::fresh, "scale(0, MIN, 1)", x -> x.scale(0, MIN, 1));
    }

    @Bounds.Says("each SHARE times the number, MOD p, and, if there are SEALS, each SEAL raised to (the number MOD p)")
    static void promise15By0() {
        for (int zero : new int[] {0, 13, -13, 2147483637, -2147483637}) {
            Secretshares x = Bounds.made();
            Bounds.changesJust(x, 1, "scale() by " + zero, 6, y -> y.scale(1, zero, 1));
            Bounds.dealIs(x, 1, 2, "0 0 0 - 0 0 0", "1 1 1");
        }
    }

    @Bounds.Says("each SHARE times the number, MOD p, and, if there are SEALS, each SEAL raised to (the number MOD p)")
    static void promise15By1AndBelow0() {
        for (int far : new int[] {0, 13, -13, 26}) {
            Secretshares x = Bounds.made();
            Bounds.changesJust(x, 5, "scale() by 1 and " + far, 7, y -> y.scale(0, far + 1, 5));
            Bounds.dealIs(x, 5, 1, "7 10 0 3 6 9 12", "36 46");
            Bounds.changesJust(x, 5, "scale() by -1 and " + far, 7, y -> y.scale(0, far - 1, 5));
            Bounds.dealIs(x, 5, 1, "6 3 0 10 7 4 1", "28 15");
        }
    }

    @Bounds.Says("by: any number")
    static void promise15ByTheFarthestNumbers() {
        Secretshares x = Bounds.made();
        Bounds.changesJust(x, 5, "scale() by MIN", 7, y -> y.scale(0, MIN, 5));
        Bounds.dealIs(x, 5, 1, "1 7 0 6 12 5 11", "24 49");
        Bounds.changesJust(x, 5, "scale() by MAX", 7, y -> y.scale(0, MAX, 5));
        Bounds.dealIs(x, 5, 1, "5 9 0 4 8 12 3", "10 36");
        x = with(6);
        x.hide(0, 0, -1, 0, 0, 0);
        x.scale(0, MIN, 1);
        due("p - 1 times MIN", x.share(1, 7), 477207);
        due("the SEAL of it", x.seal(1, 0), x.sealOf(477207));
        x.scale(0, -1, 1);
        due("p - 1 times -1", x.share(1, 7), 1);
        due("the SEAL of it", x.seal(1, 0), 76);
    }

    @Bounds.Says("if there are SEALS")
    static void promise15WithoutSeals() {
        Secretshares x = Bounds.made();
        Bounds.changesJust(x, 0, "scale() without SEALS", 7, y -> y.scale(2, 2, 0));
        Bounds.dealIs(x, 0, 2, "7 5 0 5 7 6 2", "");
        Bounds.changesJust(x, 2, "scale() into one without SEALS", 6, y -> y.scale(1, 1, 2));
        Bounds.dealIs(x, 2, 2, "10 10 11 - 3 7 12", "44 42 13");
    }

    @Bounds.Says("LAID into a DEAL: that has then what is told, whatever it had")
    static void promise15LostSharesStayLost() {
        for (int deal = 0; deal <= 5; deal++) {
            int to = deal;
            Secretshares x = Bounds.made();
            Bounds.changesJust(x, to, "scale() into " + to, 6, y -> y.scale(1, -2, to));
            Bounds.dealIs(x, to, 2, "6 6 4 - 7 12 2", "36 46 16");
            x = Bounds.made();
            Bounds.changesJust(x, to, "scale() of nobody into " + to, 0, y -> y.scale(3, 2, to));
            Bounds.dealIs(x, to, 0, "- - - - - - -", "15");
        }
    }

    // ---- 16

    @Bounds.Says("Throws IndexOutOfBoundsException if deal or to is not 0 to 5")
    static void promise16DealOrToTooSmallOrTooLarge() {
        Bounds.dealBounds("handOn()", (x, deal) -> x.handOn(deal, 127, 0, 1, 2, 3));
        Bounds.dealBounds("handOn() into one", (x, deal) -> x.handOn(0, 127, deal, 1, 2, 3));
    }

    @Bounds.Says("Throws IllegalArgumentException if set is not 1 to 2^M - 1")
    static void promise16SetTooSmallOrTooLarge() {
        Bounds.setBounds("handOn()", (x, set) -> x.handOn(0, set, 1, 1, 2, 3));
    }

    @Bounds.Says("or degree not 0 to 3")
    static void promise16DegreeTooSmallOrTooLarge() {
        Bounds.upTo(3, "handOn()", (x, degree) -> x.handOn(0, 127, 1, degree, 2, 3));
    }

    @Bounds.Says("If several exceptions apply, the one that is named first is thrown")
    static void promise16SeveralAreWrong() {
        for (int deal : new int[] {-1, 6, MIN, MAX}) {
            Bounds.indexGoesFirst("handOn() of no deal, no set", x -> x.handOn(deal, 0, 0, 1, 2, 3));
            Bounds.indexGoesFirst("handOn() of no deal, no degree", x -> x.handOn(deal, 1, 0, 4, 2, 3));
            Bounds.indexGoesFirst("handOn() of no set into no deal", x -> x.handOn(0, 128, deal, 1, 2, 3));
            Bounds.indexGoesFirst("handOn() of no degree into no deal", x -> x.handOn(0, 127, deal, -1, 2, 3));
            Bounds.indexGoesFirst("handOn(), all wrong", x -> x.handOn(deal, -1, deal, MAX, 2, 3));
        }
        Bounds.throwsArgument(Bounds::made, "handOn() of no set, no degree", x -> x.handOn(0, 0, 1, 4, 2, 3));
    }

    @Bounds.Says("exceptions go ahead of REFUSED")
    static void promise16ThrowsThoughRefused() {
        for (int deal : new int[] {4, 1, 3}) {
            Bounds.throwsIndex(Bounds::made, "handOn(), no deal", x -> x.handOn(deal, 1, 6, 1, 2, 3));
            Bounds.throwsArgument(Bounds::made, "handOn(), no set", x -> x.handOn(deal, 128, 0, 1, 2, 3));
            Bounds.throwsArgument(Bounds::made, "handOn(), no degree", x -> x.handOn(deal, 1, 0, 4, 2, 3));
            Bounds.throwsArgument(Bounds::made, "handOn(), no degree", x -> x.handOn(deal, 1, 0, -1, 2, 3));
        }
    }

    @Bounds.Says("REFUSED, if the DEAL of the SET is EMPTY")
    static void promise16OfAnEmptyDeal() {
        Bounds.refused(Bounds::made, "handOn() of the deal 4", x -> x.handOn(4, 127, 0, 1, 2, 3));
        Bounds.refused(Bounds::made, "handOn() of the deal 5", x -> x.handOn(5, 1, 5, 0, 2, 3));
        Bounds.refused(Bounds::fresh, "handOn() of the deal 0", x -> x.handOn(0, 127, 1, 3, 2, 3));
    }

    @Bounds.Says("or the SET is not ENOUGH there")
    static void promise16NotThere() {
        Bounds.refused(Bounds::made, "handOn() with one who lost", x -> x.handOn(1, 127, 0, 1, 2, 3));
        Bounds.refused(Bounds::made, "handOn() with one who lost", x -> x.handOn(1, 15, 0, 1, 2, 3));
        Bounds.refused(Bounds::made, "handOn() where nobody has one", x -> x.handOn(3, 1, 0, 1, 2, 3));
        Bounds.refused(Bounds::made, "handOn() where nobody has one", x -> x.handOn(3, 127, 0, 1, 2, 3));
    }

    @Bounds.Says("(by the DEGREE of that DEAL, not by the told one)")
    static void promise16TooFewForItsOwnDegree() {
        for (int degree = 0; degree <= 3; degree++) {
            int told = degree;
            Bounds.refused(Bounds::made, "handOn() of 1, told " + told, x -> x.handOn(0, 64, 5, told, 2, 3));
            Bounds.refused(Bounds::made, "handOn() of 2, told " + told, x -> x.handOn(1, 3, 5, told, 2, 3));
            Bounds.refused(Bounds::full, "handOn() of 3, told " + told, x -> x.handOn(3, 7, 5, told, 2, 3));
        }
    }

    @Bounds.Says("(by the DEGREE of that DEAL, not by the told one)")
    static void promise16JustEnoughForItsOwnDegree() {
        Secretshares x = Bounds.made();
        Bounds.changesJust(x, 5, "handOn() of DEGREE + 1 HOLDERS", 7, y -> y.handOn(0, 3, 5, 3, 1, 1));
        // the WEIGHTS at 0 of 1 and 2 are 2 and -1: a falls out, T is 4 + x + 2xx + 3xxx
        Bounds.dealIs(x, 5, 3, "10 12 2 11 5 2 7", "36 10 47 46");
        x.hide(4, 0, 6, 0, 0, 0);
        Bounds.changesJust(x, 5, "handOn() of one with DEGREE 0", 7, y -> y.handOn(4, 64, 5, 3, 1, 1));
        // T is 6 + 8x + 9xx + 10xxx
        Bounds.dealIs(x, 5, 3, "7 8 4 3 0 3 7", "49 24 28 15");
        Bounds.changesJust(x, 5, "handOn() of three with DEGREE 2", 7, y -> y.handOn(1, 7, 5, 3, 0, 0));
        Bounds.dealIs(x, 5, 3, "11 11 11 11 11 11 11", "44 1 1 1");
    }

    @Bounds.Says("LAID into a DEAL are the told DEGREE, for all HOLDERS the VALUES of T, and its SEALS.")
    static void promise16ToldDegree0() {
        Secretshares x = Bounds.made();
        Bounds.changesJust(x, 5, "handOn() with DEGREE 0", 7, y -> y.handOn(0, 127, 5, 0, MIN, MAX));
        Bounds.dealIs(x, 5, 0, "4 4 4 4 4 4 4", "36");
    }

    @Bounds.Says("its COEFFICIENT k, for k from 1 on, is (a * h + b * k) MOD p")
    static void promise16FarthestNumbers() {
        Secretshares x = Bounds.made();
        x.hide(4, 0, 0, 0, 0, 0);
        due("handOn() with MIN and MAX", x.handOn(4, 64, 5, 3, MIN, MAX), 7);
        // 2 * 7 + 10k: 11, 8, 5
        Bounds.dealIs(x, 5, 3, "11 3 6 11 9 4 0", "1 44 24 42");
        x.handOn(4, 64, 5, 1, MAX, MIN);
        // 10 * 7 + 2
        due("SEALS", x.seals(5), "1 13");
        x.prime(6);
        x.hide(4, 0, 0, 0, 0, 0);
        x.handOn(4, 64, 5, 3, MAX, MAX);
        int[] due = {0, 817639, 294842, 772048};
        for (int k = 0; k <= 3; k++) {
            due("COEFFICIENT " + k + ", 477206 * (7 + k)", x.coefficient(5, 15, k), due[k]);
        }
    }

    @Bounds.Says("the WEIGHT of h at 0 times that POLY, COEFFICIENT by COEFFICIENT, MOD p")
    static void promise16ByTheGreatestPrime() {
        Secretshares x = with(6);
        x.hide(0, 3, -1, -2, -3, -4);
        due("handOn() of all", x.handOn(0, 127, 1, 3, MAX, -1), 7);
        // the WEIGHTS at 0 of two or more leave a out: T is -1 - x - 2xx - 3xxx
        Bounds.dealIs(x, 1, 3, "999996 999968 999900 999774 999572 999276 998868",
            "14684255 14684255 12035355 34737412");
        due("handOn() of DEGREE + 1", x.handOn(0, 120, 1, 0, 0, 0), 7);
        Bounds.dealIs(x, 1, 0, "1000002 1000002 1000002 1000002 1000002 1000002 1000002", "14684255");
    }

    @Bounds.Says("LAID into a DEAL: that has then what is told, whatever it had")
    static void promise16IntoEachDeal() {
        for (int deal = 0; deal <= 5; deal++) {
            int to = deal;
            Secretshares x = Bounds.made();
            Bounds.changesJust(x, to, "handOn() into " + to, 7, y -> y.handOn(1, 7, to, 1, 5, 10));
            Bounds.dealIs(x, to, 1, "8 5 2 12 9 6 3", "44 15");
            x = sixth();
            Bounds.changesJust(x, to, "handOn() of DEGREE 6 into " + to, 7, y -> y.handOn(4, 127, to, 0, 5, 10));
            Bounds.dealIs(x, to, 0, "0 0 0 0 0 0 0", "1");
        }
    }

    @Bounds.Says("for all HOLDERS the VALUES of T")
    static void promise16ToThoseWithoutAShareToo() {
        Secretshares x = with(0);
        x.hide(0, 1, 1, 1, 1, 1);
        Bounds.lose(x, 0, 1, 2);
        due("handOn() of two to four", x.handOn(0, 12, 0, 3, 1, 2), 4);
        Bounds.dealIs(x, 0, 3, "3 4 0 2", "3 9 4 3");
    }

    // ---- 17

    @Bounds.Says("Throws IndexOutOfBoundsException if deal is not 0 to 5")
    static void promise17DealTooSmallOrTooLarge() {
        Bounds.dealBounds("lose()", (x, deal) -> x.lose(deal, 1));
    }

    @Bounds.Says("or holder not 1 to M")
    static void promise17HolderTooSmallOrTooLarge() {
        Bounds.holderBounds("lose()", (x, holder) -> x.lose(0, holder));
        Bounds.holderBounds("lose() of the last deal", (x, holder) -> x.lose(5, holder));
    }

    @Bounds.Says("exceptions go ahead of REFUSED")
    static void promise17ThrowsThoughEmpty() {
        for (int holder : new int[] {0, 8, -1, MIN, MAX}) {
            Bounds.throwsIndex(Bounds::made, "lose() in an EMPTY one", x -> x.lose(4, holder));
        }
    }

    @Bounds.Says("REFUSED, if the DEAL is EMPTY")
    static void promise17OfAnEmptyDeal() {
        for (int holder = 1; holder <= 7; holder++) {
            int one = holder;
            Bounds.refused(Bounds::made, "lose() of the deal 4", x -> x.lose(4, one));
            Bounds.refused(Bounds::fresh, "lose() of the deal 0", x -> x.lose(0, one));
        }
    }

    @Bounds.Says("or there was none")
    static void promise17ThereWasNone() {
        Bounds.refused(Bounds::made, "lose() again", x -> x.lose(1, 4));
        for (int holder = 1; holder <= 7; holder++) {
            int one = holder;
            Bounds.refused(Bounds::made, "lose() where nobody has one", x -> x.lose(3, one));
        }
    }

    @Bounds.Says("Returns the SHARE that was there")
    static void promise17AShareOf0() {
        Secretshares x = Bounds.made();
        Bounds.changesSharesOf(x, 0, "lose() of a SHARE 0", 0, y -> y.lose(0, 3));
        Bounds.dealIs(x, 0, 1, "7 10 - 3 6 9 12", "36 46");
        Bounds.changesSharesOf(x, 0, "lose() of a SHARE p - 1", 12, y -> y.lose(0, 7));
        Bounds.dealIs(x, 0, 1, "7 10 - 3 6 9 -", "36 46");
    }

    @Bounds.Says("(SEALS stay)")
    static void promise17TheLastShare() {
        Secretshares x = Bounds.made();
        Bounds.lose(x, 1, 1, 2, 3, 5, 6);
        Bounds.changesSharesOf(x, 1, "lose() of the last SHARE", 12, y -> y.lose(1, 7));
        Bounds.dealIs(x, 1, 2, "- - - - - - -", "44 42 13");
        due("DEALS that are not EMPTY", x.house(5), 4);
    }

    @Bounds.Says("A HOLDER has no SHARE any more")
    static void promise17OfTheLeastPrime() {
        Secretshares x = with(0);
        x.hide(5, 1, 1, 1, 0, 0);
        due("lose() of the last HOLDER", x.lose(5, 4), 0);
        due("lose() of the first HOLDER", x.lose(5, 1), 2);
        Bounds.dealIs(x, 5, 1, "- 3 4 -", "3 3");
    }

    // ---- 18

    @Bounds.Says("Throws IndexOutOfBoundsException if deal is not 0 to 5")
    static void promise18DealTooSmallOrTooLarge() {
        Bounds.dealBounds("give()", (x, deal) -> x.give(deal, 1, 2));
    }

    @Bounds.Says("or holder not 1 to M")
    static void promise18HolderTooSmallOrTooLarge() {
        Bounds.holderBounds("give()", (x, holder) -> x.give(0, holder, 2));
        Bounds.holderBounds("give() in the last deal", (x, holder) -> x.give(5, holder, 2));
    }

    @Bounds.Says("exceptions go ahead of REFUSED")
    static void promise18ThrowsThoughEmpty() {
        for (int holder : new int[] {0, 8, -1, MIN, MAX}) {
            Bounds.throwsIndex(Bounds::made, "give() in an EMPTY one", x -> x.give(4, holder, 3));
        }
    }

    @Bounds.Says("REFUSED, if the DEAL is EMPTY.")
    static void promise18InAnEmptyDeal() {
        for (int holder = 1; holder <= 7; holder++) {
            int one = holder;
            Bounds.refused(Bounds::made, "give() in the deal 5", x -> x.give(5, one, 3));
            Bounds.refused(Bounds::fresh, "give() in the deal 0", x -> x.give(0, one, 0));
        }
    }

    @Bounds.Says("NONE without one")
    static void promise18WithoutOneBefore() {
        Secretshares x = Bounds.made();
        Bounds.changesSharesOf(x, 1, "give() to one without", -1, y -> y.give(1, 4, 0));
        Bounds.dealIs(x, 1, 2, "10 10 11 0 3 7 12", "44 42 13");
        Bounds.changesSharesOf(x, 3, "give() where nobody has one", -1, y -> y.give(3, 7, 5));
        Bounds.dealIs(x, 3, 0, "- - - - - - 5", "42");
    }

    @Bounds.Says("Returns the SHARE before")
    static void promise18AShareOf0Before() {
        Secretshares x = Bounds.made();
        Bounds.changesSharesOf(x, 0, "give() in the place of 0", 0, y -> y.give(0, 3, 12));
        Bounds.dealIs(x, 0, 1, "7 10 12 3 6 9 12", "36 46");
        Bounds.changesSharesOf(x, 2, "give() in a deal without SEALS", 10, y -> y.give(2, 1, 0));
        Bounds.dealIs(x, 2, 2, "0 9 0 9 10 3 1", "");
    }

    @Bounds.Says("any number: the SHARE is it MOD p")
    static void promise18NumbersRoundThePrime() {
        int[][] rows = {{13, 0}, {12, 12}, {14, 1}, {-1, 12}, {-13, 0}, {-14, 12}, {MAX, 10}, {MIN, 2}};
        Secretshares x = Bounds.made();
        int before = 12;
        for (int[] row : rows) {
            Bounds.changesSharesOf(x, 0, "give() of " + row[0], before, y -> y.give(0, 7, row[0]));
            before = row[1];
            due("share()", x.share(0, 7), before);
        }
        Bounds.dealIs(x, 0, 1, "7 10 0 3 6 9 2", "36 46");
        x = with(6);
        x.hide(0, 0, 1, 0, 0, 0);
        due("give() of MIN", x.give(0, 1, MIN), 1);
        due("give() of MAX", x.give(0, 1, MAX), 522796);
        due("share()", x.share(0, 1), 477206);
    }

    // ---- 19

    @Bounds.Says("Throws IndexOutOfBoundsException if deal is not 0 to 5")
    static void promise19DealTooSmallOrTooLarge() {
        Bounds.dealBounds("regain()", (x, deal) -> x.regain(deal, 1, 127));
    }

    @Bounds.Says("or holder not 1 to M")
    static void promise19HolderTooSmallOrTooLarge() {
        Bounds.holderBounds("regain()", (x, holder) -> x.regain(0, holder, 15));
    }

    @Bounds.Says("Throws IllegalArgumentException if set is not 1 to 2^M - 1")
    static void promise19SetTooSmallOrTooLarge() {
        Bounds.setBounds("regain()", (x, set) -> x.regain(0, 1, set));
    }

    @Bounds.Says("If several exceptions apply, the one that is named first is thrown")
    static void promise19SeveralAreWrong() {
        for (int wrong : new int[] {-1, 8, MIN, MAX}) {
            Bounds.indexGoesFirst("regain() of no deal, no set", x -> x.regain(wrong, 1, 0));
            Bounds.indexGoesFirst("regain() of no holder, no set", x -> x.regain(0, wrong, 128));
            Bounds.indexGoesFirst("regain(), all wrong", x -> x.regain(wrong, wrong, -1));
        }
    }

    @Bounds.Says("exceptions go ahead of REFUSED")
    static void promise19ThrowsThoughRefused() {
        Bounds.throwsIndex(Bounds::made, "regain() in an EMPTY one", x -> x.regain(4, 8, 127));
        Bounds.throwsIndex(Bounds::made, "regain() by too few", x -> x.regain(0, 0, 1));
        Bounds.throwsArgument(Bounds::made, "regain() in an EMPTY one", x -> x.regain(4, 1, 128));
        Bounds.throwsArgument(Bounds::made, "regain() in an EMPTY one", x -> x.regain(4, 1, 0));
    }

    @Bounds.Says("REFUSED, if the DEAL is EMPTY")
    static void promise19InAnEmptyDeal() {
        Bounds.refused(Bounds::made, "regain() in the deal 4", x -> x.regain(4, 1, 127));
        Bounds.refused(Bounds::fresh, "regain() in the deal 0", x -> x.regain(0, 7, 1));
    }

    @Bounds.Says("or the SET is not ENOUGH there")
    static void promise19TooFewOrNotThere() {
        Bounds.refused(Bounds::made, "regain() by one", x -> x.regain(0, 2, 1));
        Bounds.refused(Bounds::made, "regain() by one, who is the HOLDER", x -> x.regain(0, 1, 1));
        Bounds.refused(Bounds::made, "regain() by two", x -> x.regain(1, 4, 3));
        Bounds.refused(Bounds::made, "regain() by one who lost it too", x -> x.regain(1, 1, 15));
        Bounds.refused(Bounds::made, "regain() by the HOLDER, who lost it, too", x -> x.regain(1, 4, 127));
        Bounds.refused(Bounds::made, "regain() where nobody has one", x -> x.regain(3, 1, 126));
    }

    @Bounds.Says("It is ENOUGH, if it is THERE and has more than DEGREE HOLDERS.")
    static void promise19JustEnough() {
        Secretshares x = Bounds.made();
        Bounds.changesSharesOf(x, 1, "regain() by three", 0, y -> y.regain(1, 4, 7));
        Bounds.dealIs(x, 1, 2, "10 10 11 0 3 7 12", "44 42 13");
        Bounds.changesSharesOf(x, 0, "regain() by two", 7, y -> y.regain(0, 1, 96));
        x.give(3, 7, 8);
        Bounds.changesSharesOf(x, 3, "regain() by one with DEGREE 0", 8, y -> y.regain(3, 1, 64));
        Bounds.dealIs(x, 3, 0, "8 - - - - - 8", "42");
    }

    @Bounds.Says("The SHARE of a HOLDER (whether there is one or not) becomes what a SET TELLS at their place")
    static void promise19WhetherThereIsOneOrNot() {
        for (int holder = 1; holder <= 7; holder++) {
            int one = holder;
            int others = 127 - (1 << (holder - 1));
            Secretshares x = Bounds.made();
            int due = x.lose(0, holder);
            Bounds.changesSharesOf(x, 0, "regain() of none", due, y -> y.regain(0, one, others));
            x.give(0, holder, due + 1);
            Bounds.changesSharesOf(x, 0, "regain() of a wrong one", due, y -> y.regain(0, one, others));
            Bounds.dealIs(x, 0, 1, "7 10 0 3 6 9 12", "36 46");
            x.lose(2, holder);
            due("regain() without SEALS", x.regain(2, holder, others), due * due % 13);
            Bounds.dealIs(x, 2, 2, "10 9 0 9 10 3 1", "");
        }
    }

    @Bounds.Says("the HOLDER (may be in the SET, too)")
    static void promise19TheHolderInTheSet() {
        Secretshares x = Bounds.made();
        x.give(0, 5, 0);
        Bounds.changesSharesOf(x, 0, "regain() by all", 0, y -> y.regain(0, 5, 127));
        Bounds.changesSharesOf(x, 0, "regain() by all", 7, y -> y.regain(0, 1, 127));
        Bounds.dealIs(x, 0, 1, "7 10 0 3 0 9 12", "36 46");
    }

    // ---- 20

    @Bounds.Says("Throws IndexOutOfBoundsException if deal is not 0 to 5")
    static void promise20DealTooSmallOrTooLarge() {
        Bounds.dealBounds("mend()", Secretshares::mend);
    }

    @Bounds.Says("0, if the DEAL AGREES (nothing is changed then)")
    static void promise20TheDealAgrees() {
        for (int deal = 0; deal <= 2; deal++) {
            int one = deal;
            Bounds.answers(Bounds::made, "mend(" + deal + ")", 0, x -> x.mend(one));
        }
        Bounds.answers(Bounds::made, "mend() of nobody", 0, x -> x.mend(3));
    }

    @Bounds.Says("0, if the DEAL AGREES (nothing is changed then)")
    static void promise20FewSharesAgree() {
        Secretshares x = Bounds.made();
        x.give(0, 1, 0);
        Bounds.lose(x, 0, 3, 4, 5, 6, 7);
        Check.answers(x, "mend() with DEGREE + 1 SHARES", 0, () -> x.mend(0));
        x.lose(0, 2);
        Check.answers(x, "mend() with DEGREE SHARES", 0, () -> x.mend(0));
    }

    @Bounds.Says("REFUSED, if wrong() is REFUSED.")
    static void promise20OfAnEmptyDeal() {
        Bounds.refused(Bounds::made, "mend(4)", x -> x.mend(4));
        Bounds.refused(Bounds::fresh, "mend(0)", x -> x.mend(0));
    }

    @Bounds.Says("REFUSED, if wrong() is REFUSED.")
    static void promise20TooFewShares() {
        Secretshares x = Bounds.made();
        x.give(0, 1, 0);
        Bounds.lose(x, 0, 4, 5, 6, 7);
        due("wrong()", x.wrong(0), -9);
        Check.refused(x, "mend() with DEGREE + 2 SHARES", () -> x.mend(0));
    }

    @Bounds.Says("REFUSED, if wrong() is REFUSED.")
    static void promise20NoSuspect() {
        Secretshares x = Bounds.made();
        x.give(0, 1, 0);
        x.give(0, 2, 0);
        due("wrong()", x.wrong(0), -9);
        Check.refused(x, "mend() with two wrong ones", () -> x.mend(0));
    }

    @Bounds.Says("The SHARE of the HOLDER whom wrong() tells becomes what all others with SHARES together TELL at that"
        + " place (SEALS stay).")
    static void promise20JustEnoughShares() {
        Secretshares x = Bounds.made();
        x.give(0, 1, 0);
        Bounds.lose(x, 0, 5, 6, 7);
        Bounds.changesSharesOf(x, 0, "mend() with DEGREE + 3 SHARES", 1, y -> y.mend(0));
        Bounds.dealIs(x, 0, 1, "7 10 0 3 - - -", "36 46");
        x.give(1, 7, 0);
        x.lose(1, 5);
        Bounds.changesSharesOf(x, 1, "mend() with DEGREE + 3 SHARES", 7, y -> y.mend(1));
        Bounds.dealIs(x, 1, 2, "10 10 11 - - 7 12", "44 42 13");
    }

    @Bounds.Says("Returns that HOLDER")
    static void promise20EachHolder() {
        for (int holder = 1; holder <= 7; holder++) {
            int one = holder;
            Secretshares x = Bounds.made();
            x.give(0, holder, x.share(0, holder) - 1);
            Bounds.changesSharesOf(x, 0, "mend()", holder, y -> y.mend(0));
            Bounds.dealIs(x, 0, 1, "7 10 0 3 6 9 12", "36 46");
            x.give(2, holder, x.share(2, holder) + 1);
            Bounds.changesSharesOf(x, 2, "mend() without SEALS", one, y -> y.mend(2));
            Bounds.dealIs(x, 2, 2, "10 9 0 9 10 3 1", "");
        }
    }

    // ---- 21

    @Bounds.Says("Throws IndexOutOfBoundsException if deal or to is not 0 to 5")
    static void promise21DealOrToTooSmallOrTooLarge() {
        Bounds.dealBounds("copy()", (x, deal) -> x.copy(deal, 0));
        Bounds.dealBounds("copy() into one", (x, deal) -> x.copy(0, deal));
        Bounds.dealBounds("copy() of an EMPTY one", (x, deal) -> x.copy(4, deal));
    }

    @Bounds.Says("LAID into a DEAL is all that another one has (it is EMPTY, if that is).")
    static void promise21OfAnEmptyDeal() {
        for (int deal = 0; deal <= 5; deal++) {
            int to = deal;
            Secretshares x = Bounds.made();
            Bounds.changesJust(x, to, "copy() of an EMPTY one", 0, y -> y.copy(5, to));
            Bounds.isEmpty(x, to);
        }
        Bounds.answers(Bounds::fresh, "copy() of one new one", 0, x -> x.copy(0, 5));
    }

    @Bounds.Says("LAID into a DEAL is all that another one has")
    static void promise21IntoEachDeal() {
        for (int deal = 0; deal <= 5; deal++) {
            int to = deal;
            Secretshares x = Bounds.made();
            Bounds.changesJust(x, to, "copy() of one with SEALS", 6, y -> y.copy(1, to));
            Bounds.dealIs(x, to, 2, "10 10 11 - 3 7 12", "44 42 13");
            x = Bounds.made();
            Bounds.changesJust(x, to, "copy() of one without SEALS", 7, y -> y.copy(2, to));
            Bounds.dealIs(x, to, 2, "10 9 0 9 10 3 1", "");
            x = Bounds.made();
            Bounds.changesJust(x, to, "copy() of one without SHARES", 0, y -> y.copy(3, to));
            Bounds.dealIs(x, to, 0, "- - - - - - -", "42");
        }
    }

    @Bounds.Says("both may be the same DEAL")
    static void promise21TheSameDeal() {
        int[] due = {7, 6, 7, 0, 0, 0};
        for (int deal = 0; deal <= 5; deal++) {
            int one = deal;
            Bounds.answers(Bounds::made, "copy() of " + deal + " into itself", due[deal], x -> x.copy(one, one));
        }
    }

    @Bounds.Says("LAID into a DEAL is all that another one has")
    static void promise21ThenEachForItself() {
        Secretshares x = Bounds.made();
        x.copy(0, 5);
        Bounds.changesJust(x, 5, "pour()", 7, y -> y.pour(5, 1, 1, 0, 0));
        Bounds.changesJust(x, 5, "lose()", 9, y -> y.lose(5, 1));
        Bounds.dealIs(x, 0, 1, "7 10 0 3 6 9 12", "36 46");
    }

    // ---- 22

    @Bounds.Says("Throws IndexOutOfBoundsException if deal is not 0 to 5")
    static void promise22DealTooSmallOrTooLarge() {
        Bounds.dealBounds("drop()", Secretshares::drop);
    }

    @Bounds.Says("Returns how many SHARES it had (0, if it was EMPTY).")
    static void promise22OfAnEmptyDeal() {
        Bounds.answers(Bounds::made, "drop(4)", 0, x -> x.drop(4));
        Bounds.answers(Bounds::fresh, "drop(0)", 0, x -> x.drop(0));
    }

    @Bounds.Says("A DEAL is EMPTY then.")
    static void promise22OfEachKind() {
        int[] due = {7, 6, 7, 0};
        for (int deal = 0; deal <= 3; deal++) {
            int one = deal;
            Secretshares x = Bounds.made();
            Bounds.changesJust(x, deal, "drop(" + deal + ")", due[deal], y -> y.drop(one));
            Bounds.isEmpty(x, deal);
            due("DEALS that are not EMPTY", x.house(5), 3);
            due("drop(" + deal + ") again", x.drop(deal), 0);
        }
    }

    @Bounds.Says("A DEAL is EMPTY then.")
    static void promise22OfAllSix() {
        Secretshares x = Bounds.full();
        for (int deal = 0; deal <= 5; deal++) {
            due("drop(" + deal + ")", x.drop(deal), 7);
            due("DEALS that are not EMPTY", x.house(5), 5 - deal);
        }
    }

    // ---- 23

    @Bounds.Says("Returns how often one knocked ever, with this.")
    static void promise23TheFirstKnock() {
        Secretshares x = new Secretshares();
        due("knocks to begin with", x.house(6), 0);
        due("the first knock()", x.knock(), 1);
        due("the second knock()", x.knock(), 2);
        due("knocks", x.house(6), 2);
    }

    @Bounds.Says("Returns how often one knocked ever, with this.")
    static void promise23EverWhateverElseIsDone() {
        Secretshares x = Bounds.full();
        due("the first knock()", x.knock(), 1);
        x.prime(0);
        due("knock() behind prime()", x.knock(), 2);
        Bounds.throwsIndex(Bounds::made, "a call that throws", y -> y.drop(6));
        Check.noIndex(x, "a call that throws", () -> x.drop(6));
        Check.refused(x, "a call that is REFUSED", () -> x.mend(0));
        due("knock() behind these", x.knock(), 3);
    }

    @Bounds.Says("Knocks.")
    static void promise23NothingElseChanges() {
        Secretshares x = Bounds.made();
        String before = Bounds.allBut(x, -1);
        due("knock()", x.knock(), 2);
        due("what is there behind it", Bounds.allBut(x, -1), before.replaceFirst("^3 1 ", "3 2 "));
    }
}
