import java.math.BigInteger;

/** Boundary cases of promises 42 to 44: all of it. A test for each sentence. */
public final class BoundaryAllTest {
    private BoundaryAllTest() {
    }

    public static void main(String[] args) throws IllegalAccessException {
        Bounds.run(BoundaryAllTest.class, 42, 44);
    }

    private static void due(String call, Object got, Object want) {
        Check.due(call, got, want);
    }

    // ---- 42

    @Bounds.Says("Throws IllegalArgumentException if what is not 0 to 6")
    static void promise42WhatTooSmallOrTooLarge() {
        Bounds.upTo(6, "house()", Secretshares::house);
    }

    @Bounds.Says("0 WHICH, 1 p, 2 q, 3 g, 4 M")
    static void promise42OfEachField() {
        for (int which = 0; which <= 6; which++) {
            Secretshares x = new Secretshares();
            x.prime(which);
            due("house(0)", x.house(0), which);
            for (int what = 1; what <= 4; what++) {
                due("house(" + what + ") with WHICH " + which, x.house(what), Bounds.FIELDS[which][what - 1]);
            }
        }
    }

    @Bounds.Says("5 how many DEALS are not EMPTY")
    static void promise42NoDealToAllDeals() {
        Secretshares x = new Secretshares();
        due("none", x.house(5), 0);
        for (int deal = 5; deal >= 0; deal--) {
            x.hide(deal, 0, 1, 0, 0, 0);
            due("one more", x.house(5), 6 - deal);
        }
        x.hide(0, 0, 2, 0, 0, 0);
        due("one that was not EMPTY", x.house(5), 6);
        Bounds.loseAll(x, 0);
        due("one without SHARES", x.house(5), 6);
        x.drop(0);
        due("one dropped", x.house(5), 5);
        x.prime(3);
        due("another PRIME", x.house(5), 0);
    }

    @Bounds.Says("6 how often one knocked")
    static void promise42KnocksFrom0() {
        Secretshares x = new Secretshares();
        due("house(6) at first", x.house(6), 0);
        x.knock();
        due("house(6)", x.house(6), 1);
        due("house(6) again", x.house(6), 1);
        x.prime(5);
        due("house(6) behind prime()", x.house(6), 1);
    }

    // ---- 43

    @Bounds.Says("Returns whether all of this is so (in whichever sequence)")
    static void promise43OfEmptySomeAndFull() {
        Bounds.answers(Bounds::fresh, "isSound() of a new one", true, Secretshares::isSound);
        Bounds.answers(Bounds::made, "isSound() of some", true, Secretshares::isSound);
        for (int which = 0; which <= 6; which++) {
            int told = which;
            Bounds.answers(() -> Bounds.filled(told), "isSound() of a full one", true, Secretshares::isSound);
        }
    }

    @Bounds.Says("if it has more SHARES than its DEGREE")
    static void promise43FewerSharesThanTheDegreeAsks() {
        for (int degree = 0; degree <= 3; degree++) {
            Secretshares x = new Secretshares();
            x.hide(2, degree, 4, 3, 2, 5);
            for (int holder = 1; holder <= 7; holder++) {
                due("isSound() with " + (8 - holder) + " SHARES", x.isSound(), true);
                x.lose(2, holder);
            }
            due("isSound() without SHARES", x.isSound(), true);
        }
    }

    @Bounds.Says("and the SHARES of those DEGREE + 1 HOLDERS with a SHARE who have the smallest numbers all FIT")
    static void promise43NotAllFit() {
        for (int holder = 1; holder <= 7; holder++) {
            Secretshares x = Bounds.made();
            x.give(0, holder, x.share(0, holder) + 1);
            Check.answers(x, "isSound() with a wrong SHARE", true, x::isSound);
            x.give(1, holder, x.share(1, holder) + 1);
            Check.answers(x, "isSound() with wrong SHARES", true, x::isSound);
        }
    }

    @Bounds.Says("a DEAL has no SEALS, or DEGREE + 1 of them")
    static void promise43WithoutSeals() {
        Secretshares x = Bounds.made();
        x.drop(0);
        x.drop(1);
        x.drop(3);
        Check.answers(x, "isSound() without SEALS", true, x::isSound);
        x.times(2, 2, 0);
        Check.answers(x, "isSound() with DEGREE 4 without SEALS", true, x::isSound);
    }

    @Bounds.Says("each SHARE is 0 to p - 1, each SEAL 1 to q - 1")
    static void promise43TheLeastAndTheGreatest() {
        for (int which = 0; which <= 6; which++) {
            for (int number : new int[] {0, -1, Bounds.MIN, Bounds.MAX}) {
                Secretshares x = new Secretshares();
                x.prime(which);
                x.hide(0, 3, number, number, number, number);
                x.scale(0, number, 1);
                x.less(1, 0, 2);
                x.plus(1, 0, 3);
                x.pour(0, number, 1, number, -1);
                x.give(4, 1, number);
                due("isSound() with " + number + ", WHICH " + which, x.isSound(), true);
            }
        }
    }

    // ---- 44

    /** Without the wrap-around: as long as it gets. */
    private static BigInteger unwrapped(Secretshares x) {
        BigInteger d = BigInteger.valueOf(7977);
        for (int what = 0; what <= 6; what++) {
            d = behind(d, x.house(what));
        }
        for (int deal = 0; deal <= 5; deal++) {
            for (int what = 0; what <= 3; what++) {
                d = behind(d, x.ofDeal(deal, what));
            }
            for (int holder = 1; holder <= x.house(4); holder++) {
                d = behind(d, x.share(deal, holder));
            }
            for (int k = 0; k <= 3; k++) {
                d = behind(d, x.seal(deal, k));
            }
        }
        return behind(d, x.isSound() ? 1 : 0);
    }

    private static BigInteger behind(BigInteger d, int v) {
        return d.multiply(BigInteger.valueOf(31)).add(BigInteger.valueOf(v));
    }

    @Bounds.Says("then d becomes d * 31 + v, which wraps around as a 64-bit integer")
    static void promise44WrapsAround() {
        for (Bounds.Start start : new Bounds.Start[] {Bounds::fresh, Bounds::made, Bounds::full}) {
            Secretshares x = start.made();
            BigInteger d = unwrapped(x);
            due("it is beyond 64 bits", d.bitLength() > 64, true);
            due("digest()", x.digest(), d.longValue());
        }
        for (int which = 0; which <= 6; which++) {
            Secretshares x = Bounds.filled(which);
            due("digest() with WHICH " + which, x.digest(), unwrapped(x).longValue());
        }
    }

    @Bounds.Says("A number d starts with 7977")
    static void promise44OfANewObject() {
        due("digest() of a new one", new Secretshares().digest(), 7169845891689636258L);
    }

    @Bounds.Says("then its share() of each HOLDER from 1 to M")
    static void promise44OfFourAndOfSixHolders() {
        for (int which = 0; which <= 1; which++) {
            for (int deal = 0; deal <= 5; deal++) {
                Secretshares x = new Secretshares();
                x.prime(which);
                x.hide(deal, 1, 1, 1, 0, 0);
                long before = x.digest();
                due("digest()", before, unwrapped(x).longValue());
                x.lose(deal, Bounds.FIELDS[which][3]);
                due("digest() without the last SHARE", x.digest(), unwrapped(x).longValue());
                due("it is another one", x.digest() != before, true);
            }
        }
    }

    @Bounds.Says("Returns d.")
    static void promise44TwiceTheSame() {
        for (Bounds.Start start : new Bounds.Start[] {Bounds::fresh, Bounds::made, Bounds::full}) {
            Secretshares x = start.made();
            long first = x.digest();
            due("digest() again", x.digest(), first);
        }
    }
}
