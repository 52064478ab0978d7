/** Six deals in which a number is hidden in shares; the words in capitals are those of the document. */
public final class Secretshares {
    private static final int NONE = -1;
    private static final int REFUSED = -9;
    private static final int DEALS = 6;
    private static final int MOST_HOLDERS = 7;
    private static final int MOST_DEGREE = 6;
    private static final int MOST_TOLD_DEGREE = 3;
    private static final int MOST_POLYS = 125;
    private static final int FIRST_WHICH = 3;
    private static final int[] PRIMES = {5, 7, 11, 13, 101, 65537, 1000003};
    private static final int[] GREAT_PRIMES = {11, 29, 23, 53, 607, 917519, 36000109};
    private static final int[] BASES = {3, 7, 2, 10, 7, 5, 76};

    private final Field field;
    private final Poly poly;
    private final Deal[] deals;
    /** What is LAID into a DEAL is made here first, as that DEAL may be one of those that it is made of. */
    private final Deal spare;
    private int knocks;

    public Secretshares() {
        field = new Field();
        poly = new Poly();
        deals = new Deal[DEALS];
        for (int i = 0; i < deals.length; i++) {
            deals[i] = new Deal();
        }
        spare = new Deal();
        knocks = 0;
    }

    // ---- the field

    public int prime(int which) throws IllegalArgumentException {
        if (which < 0 || which >= PRIMES.length) {
            throw new IllegalArgumentException("no such prime");
        }
        int before = field.prime;
        field.choose(which);
        for (int i = 0; i < deals.length; i++) {
            deals[i].clear();
        }
        return before;
    }

    public int rest(int number) {
        return field.modPrime(number);
    }

    public int reckon(int first, int second, int how) throws IllegalArgumentException {
        switch (how) {
            case 0:
                return field.modPrime((long) first + second);
            case 1:
                return field.modPrime((long) first - second);
            case 2:
                return field.modPrime((long) first * second);
            case 3:
                return quotient(field.modPrime(first), field.modPrime(second));
            default:
                throw new IllegalArgumentException("how is not 0 to 3");
        }
    }

    public int reciprocal(int number) {
        return quotient(1, field.modPrime(number));
    }

    public int power(int number, int exponent) {
        int root = field.modPrime(number);
        if (exponent >= 0) {
            return Field.raise(root, exponent, field.prime);
        }
        int turned = quotient(1, root);
        return turned == REFUSED ? REFUSED : Field.raise(turned, -(long) exponent, field.prime);
    }

    public int sealOf(int number) {
        return field.sealFor(number);
    }

    // ---- weights

    public int weight(int set, int holder, int place) throws IndexOutOfBoundsException, IllegalArgumentException {
        requireHolder(holder);
        requireSet(set);
        return isIn(set, holder) ? field.weightAt(set, holder, place) : REFUSED;
    }

    public int weights(int set, int place) throws IllegalArgumentException {
        requireSet(set);
        return weightSum(set, place);
    }

    // ---- what is done with deals

    public int hide(int deal, int degree, int a, int b, int c, int d)
            throws IndexOutOfBoundsException, IllegalArgumentException {
        Deal target = dealAt(deal);
        requireToldDegree(degree);
        poly.become(field, degree, a, b, c, d);
        return layPoly(target, degree);
    }

    public int pour(int deal, int a, int b, int c, int d) throws IndexOutOfBoundsException {
        Deal target = dealAt(deal);
        if (target.isEmpty()) {
            return REFUSED;
        }
        poly.become(field, target.degree, a, b, c, d);
        for (int holder = 1; holder <= field.holders; holder++) {
            if (target.hasShare(holder)) {
                long sum = (long) target.shareAt(holder) + poly.valueAt(field, holder);
                target.setShare(holder, field.modPrime(sum));
            }
        }
        for (int k = 0; k < target.sealCount; k++) {
            target.setSeal(k, field.sealProduct(target.sealAt(k), field.sealFor(poly.at(k))));
        }
        return target.shareCount();
    }

    public int plus(int first, int second, int to) throws IndexOutOfBoundsException {
        return addUp(dealAt(first), dealAt(second), dealAt(to), false);
    }

    public int less(int first, int second, int to) throws IndexOutOfBoundsException {
        return addUp(dealAt(first), dealAt(second), dealAt(to), true);
    }

    public int times(int first, int second, int to) throws IndexOutOfBoundsException {
        Deal one = dealAt(first);
        Deal other = dealAt(second);
        Deal target = dealAt(to);
        if (one.isEmpty() || other.isEmpty() || one.degree + other.degree > MOST_DEGREE) {
            return REFUSED;
        }
        spare.start(one.degree + other.degree);
        for (int holder = 1; holder <= field.holders; holder++) {
            if (one.hasShare(holder) && other.hasShare(holder)) {
                long product = (long) one.shareAt(holder) * other.shareAt(holder);
                spare.setShare(holder, field.modPrime(product));
            }
        }
        return laySpare(target);
    }

    public int scale(int deal, int by, int to) throws IndexOutOfBoundsException {
        Deal source = dealAt(deal);
        Deal target = dealAt(to);
        if (source.isEmpty()) {
            return REFUSED;
        }
        int factor = field.modPrime(by);
        spare.start(source.degree);
        for (int holder = 1; holder <= field.holders; holder++) {
            if (source.hasShare(holder)) {
                spare.setShare(holder, field.modPrime((long) source.shareAt(holder) * factor));
            }
        }
        for (int k = 0; k < source.sealCount; k++) {
            spare.addSeal(Field.raise(source.sealAt(k), factor, field.great));
        }
        return laySpare(target);
    }

    public int handOn(int deal, int set, int to, int degree, int a, int b)
            throws IndexOutOfBoundsException, IllegalArgumentException {
        Deal source = dealAt(deal);
        Deal target = dealAt(to);
        requireSet(set);
        requireToldDegree(degree);
        if (!source.isEnough(set)) {
            return REFUSED;
        }
        poly.clear();
        for (int holder = 1; holder <= field.holders; holder++) {
            if (isIn(set, holder)) {
                int weight = field.weightAt(set, holder, 0);
                poly.addTo(field, 0, weight, source.shareAt(holder));
                for (int k = 1; k <= degree; k++) {
                    poly.addTo(field, k, weight, field.modPrime((long) a * holder + (long) b * k));
                }
            }
        }
        return layPoly(target, degree);
    }

    public int lose(int deal, int holder) throws IndexOutOfBoundsException {
        Deal target = dealAt(deal);
        requireHolder(holder);
        if (!target.hasShare(holder)) {
            return REFUSED;
        }
        int before = target.shareAt(holder);
        target.setShare(holder, NONE);
        return before;
    }

    public int give(int deal, int holder, int value) throws IndexOutOfBoundsException {
        Deal target = dealAt(deal);
        requireHolder(holder);
        if (target.isEmpty()) {
            return REFUSED;
        }
        int before = target.shareAt(holder);
        target.setShare(holder, field.modPrime(value));
        return before;
    }

    public int regain(int deal, int holder, int set) throws IndexOutOfBoundsException, IllegalArgumentException {
        Deal target = dealAt(deal);
        requireHolder(holder);
        requireSet(set);
        if (!target.isEnough(set)) {
            return REFUSED;
        }
        int regained = tell(target, set, holder);
        target.setShare(holder, regained);
        return regained;
    }

    public int mend(int deal) throws IndexOutOfBoundsException {
        Deal target = dealAt(deal);
        int holder = wrongHolder(target);
        if (holder > 0) {
            int others = target.holderSet() & ~bitOf(holder);
            target.setShare(holder, tell(target, others, holder));
        }
        return holder;
    }

    public int copy(int deal, int to) throws IndexOutOfBoundsException {
        Deal source = dealAt(deal);
        Deal target = dealAt(to);
        target.take(source);
        return target.shareCount();
    }

    public int drop(int deal) throws IndexOutOfBoundsException {
        Deal target = dealAt(deal);
        int before = target.shareCount();
        target.clear();
        return before;
    }

    public int knock() {
        knocks++;
        return knocks;
    }

    // ---- what is asked of deals

    public int share(int deal, int holder) throws IndexOutOfBoundsException {
        Deal asked = dealAt(deal);
        requireHolder(holder);
        return asked.shareAt(holder);
    }

    public int ofDeal(int deal, int what) throws IndexOutOfBoundsException, IllegalArgumentException {
        Deal asked = dealAt(deal);
        switch (what) {
            case 0:
                return asked.isEmpty() ? NONE : asked.degree;
            case 1:
                return asked.shareCount();
            case 2:
                return asked.holderSet();
            case 3:
                return asked.hasSeals() ? 1 : 0;
            case 4:
                return isInLine(asked, asked.holderSet()) ? 1 : 0;
            case 5:
                int first = asked.firstSet();
                return first == 0 ? NONE : tell(asked, first, 0);
            default:
                throw new IllegalArgumentException("what is not 0 to 5");
        }
    }

    public int told(int deal, int set, int place) throws IndexOutOfBoundsException, IllegalArgumentException {
        Deal asked = dealAt(deal);
        requireSet(set);
        return asked.isThere(set) ? tell(asked, set, place) : REFUSED;
    }

    public int open(int deal, int set) throws IndexOutOfBoundsException, IllegalArgumentException {
        Deal asked = dealAt(deal);
        requireSet(set);
        return asked.isEnough(set) ? tell(asked, set, 0) : REFUSED;
    }

    public int coefficient(int deal, int set, int k) throws IndexOutOfBoundsException, IllegalArgumentException {
        Deal asked = dealAt(deal);
        requireSet(set);
        requireCoefficient(k);
        if (!asked.isThere(set)) {
            return REFUSED;
        }
        poly.goThrough(field, asked, set);
        return poly.at(k);
    }

    public int degreeBy(int deal, int set) throws IndexOutOfBoundsException, IllegalArgumentException {
        Deal asked = dealAt(deal);
        requireSet(set);
        if (!asked.isThere(set)) {
            return REFUSED;
        }
        poly.goThrough(field, asked, set);
        return poly.highest();
    }

    public int agrees(int deal, int set) throws IndexOutOfBoundsException, IllegalArgumentException {
        Deal asked = dealAt(deal);
        requireSet(set);
        if (!asked.isThere(set)) {
            return REFUSED;
        }
        return isInLine(asked, set) ? 1 : 0;
    }

    public int suspects(int deal) throws IndexOutOfBoundsException {
        Deal asked = dealAt(deal);
        return asked.isEmpty() ? REFUSED : suspectSet(asked);
    }

    public int wrong(int deal) throws IndexOutOfBoundsException {
        return wrongHolder(dealAt(deal));
    }

    public int ways(int deal, int set, int number) throws IndexOutOfBoundsException, IllegalArgumentException {
        Deal asked = dealAt(deal);
        requireSet(set);
        if (!asked.isThere(set) || polysBeyond(asked.degree) > MOST_POLYS) {
            return REFUSED;
        }
        int open = asked.degree - Integer.bitCount(set);
        if (open >= 0) {
            return polysBeyond(open);
        }
        return isInLine(asked, set) && tell(asked, set, 0) == field.modPrime(number) ? 1 : 0;
    }

    public int total(int deal, int set) throws IndexOutOfBoundsException, IllegalArgumentException {
        Deal asked = dealAt(deal);
        requireSet(set);
        if (!asked.isThere(set)) {
            return REFUSED;
        }
        int sum = 0;
        for (int holder = 1; holder <= field.holders; holder++) {
            if (isIn(set, holder)) {
                sum += asked.shareAt(holder);
            }
        }
        return sum;
    }

    public int seal(int deal, int k) throws IndexOutOfBoundsException, IllegalArgumentException {
        Deal asked = dealAt(deal);
        requireCoefficient(k);
        return asked.sealAt(k);
    }

    public int fits(int deal, int holder) throws IndexOutOfBoundsException {
        Deal asked = dealAt(deal);
        requireHolder(holder);
        if (!asked.hasSeals() || !asked.hasShare(holder)) {
            return REFUSED;
        }
        return doesFit(asked, holder) ? 1 : 0;
    }

    public int order(int first, int second, int holder) throws IndexOutOfBoundsException {
        Deal one = dealAt(first);
        Deal other = dealAt(second);
        requireHolder(holder);
        if (!one.hasShare(holder) || !other.hasShare(holder)) {
            return REFUSED;
        }
        int left = one.shareAt(holder);
        int right = other.shareAt(holder);
        return left < right ? -1 : left > right ? 1 : 0;
    }

    public int most(int deal, boolean isLeast) throws IndexOutOfBoundsException {
        Deal asked = dealAt(deal);
        if (asked.isEmpty()) {
            return REFUSED;
        }
        int found = 0;
        int best = 0;
        for (int holder = 1; holder <= field.holders; holder++) {
            int share = asked.shareAt(holder);
            boolean isBetter = found == 0 || (isLeast ? share < best : share > best);
            if (share != NONE && isBetter) {
                found = holder;
                best = share;
            }
        }
        return found;
    }

    public String text(int deal) throws IndexOutOfBoundsException {
        Deal asked = dealAt(deal);
        StringBuilder line = new StringBuilder();
        if (asked.isEmpty()) {
            return line.toString();
        }
        for (int holder = 1; holder <= field.holders; holder++) {
            if (holder > 1) {
                line.append(' ');
            }
            if (asked.hasShare(holder)) {
                line.append(asked.shareAt(holder));
            } else {
                line.append('-');
            }
        }
        return line.toString();
    }

    public String seals(int deal) throws IndexOutOfBoundsException {
        Deal asked = dealAt(deal);
        StringBuilder line = new StringBuilder();
        for (int k = 0; k < asked.sealCount; k++) {
            if (k > 0) {
                line.append(' ');
            }
            line.append(asked.sealAt(k));
        }
        return line.toString();
    }

    public boolean isSame(int first, int second) throws IndexOutOfBoundsException {
        Deal one = dealAt(first);
        Deal other = dealAt(second);
        if (one.isEmpty() || other.isEmpty()) {
            return one.isEmpty() && other.isEmpty();
        }
        boolean isSame = one.degree == other.degree;
        for (int holder = 1; holder <= field.holders; holder++) {
            isSame = isSame && one.shareAt(holder) == other.shareAt(holder);
        }
        return isSame;
    }

    // ---- all of it

    public int house(int what) throws IllegalArgumentException {
        switch (what) {
            case 0:
                return field.which;
            case 1:
                return field.prime;
            case 2:
                return field.great;
            case 3:
                return field.base;
            case 4:
                return field.holders;
            case 5:
                return filledDeals();
            case 6:
                return knocks;
            default:
                throw new IllegalArgumentException("what is not 0 to 6");
        }
    }

    public boolean isSound() {
        for (int i = 0; i < deals.length; i++) {
            if (!areSharesSound(deals[i]) || !areSealsSound(deals[i])) {
                return false;
            }
        }
        return weightSum(allHolders(), 0) == 1 && isFirstSealSound();
    }

    public long digest() {
        long sum = 7977;
        for (int what = 0; what <= 6; what++) {
            sum = sum * 31 + house(what);
        }
        for (int deal = 0; deal < DEALS; deal++) {
            for (int what = 0; what <= 3; what++) {
                sum = sum * 31 + ofDeal(deal, what);
            }
            for (int holder = 1; holder <= field.holders; holder++) {
                sum = sum * 31 + share(deal, holder);
            }
            for (int k = 0; k <= 3; k++) {
                sum = sum * 31 + seal(deal, k);
            }
        }
        return sum * 31 + (isSound() ? 1 : 0);
    }

    // ---- what must be so of arguments

    private Deal dealAt(int deal) {
        if (deal < 0 || deal >= deals.length) {
            throw new IndexOutOfBoundsException("deal is not 0 to 5");
        }
        return deals[deal];
    }

    private void requireHolder(int holder) {
        if (holder < 1 || holder > field.holders) {
            throw new IndexOutOfBoundsException("holder is not 1 to M");
        }
    }

    private void requireSet(int set) {
        if (set < 1 || set > allHolders()) {
            throw new IllegalArgumentException("set is no set of holders");
        }
    }

    private static void requireToldDegree(int degree) {
        if (degree < 0 || degree > MOST_TOLD_DEGREE) {
            throw new IllegalArgumentException("degree is not 0 to 3");
        }
    }

    private static void requireCoefficient(int k) {
        if (k < 0 || k > MOST_DEGREE) {
            throw new IllegalArgumentException("k is not 0 to 6");
        }
    }

    // ---- what the methods have in common

    private static int bitOf(int holder) {
        return 1 << (holder - 1);
    }

    private static boolean isIn(int set, int holder) {
        return (set >> (holder - 1) & 1) == 1;
    }

    private int allHolders() {
        return (1 << field.holders) - 1;
    }

    private int quotient(int number, int divisor) {
        return divisor == 0 ? REFUSED : field.modPrime((long) number * field.inverse(divisor));
    }

    private int weightSum(int set, int place) {
        long sum = 0;
        for (int holder = 1; holder <= field.holders; holder++) {
            if (isIn(set, holder)) {
                sum += field.weightAt(set, holder, place);
            }
        }
        return field.modPrime(sum);
    }

    private int tell(Deal asked, int set, int place) {
        long sum = 0;
        for (int holder = 1; holder <= field.holders; holder++) {
            if (isIn(set, holder)) {
                sum += (long) asked.shareAt(holder) * field.weightAt(set, holder, place);
            }
        }
        return field.modPrime(sum);
    }

    private int layPoly(Deal target, int degree) {
        target.start(degree);
        for (int holder = 1; holder <= field.holders; holder++) {
            target.setShare(holder, poly.valueAt(field, holder));
        }
        for (int k = 0; k <= degree; k++) {
            target.addSeal(field.sealFor(poly.at(k)));
        }
        return target.shareCount();
    }

    private int laySpare(Deal target) {
        target.take(spare);
        return target.shareCount();
    }

    private int addUp(Deal one, Deal other, Deal target, boolean isTakenOff) {
        if (one.isEmpty() || other.isEmpty()) {
            return REFUSED;
        }
        spare.start(Math.max(one.degree, other.degree));
        for (int holder = 1; holder <= field.holders; holder++) {
            if (one.hasShare(holder) && other.hasShare(holder)) {
                long added = isTakenOff ? -(long) other.shareAt(holder) : other.shareAt(holder);
                spare.setShare(holder, field.modPrime(one.shareAt(holder) + added));
            }
        }
        if (one.hasSeals() && other.hasSeals()) {
            addUpSeals(one, other, isTakenOff);
        }
        return laySpare(target);
    }

    private void addUpSeals(Deal one, Deal other, boolean isTakenOff) {
        for (int k = 0; k <= spare.degree; k++) {
            // A DEAL without a SEAL k counts as one with the SEAL 1, which leaves the other SEAL as it is.
            int left = k < one.sealCount ? one.sealAt(k) : 1;
            int right = k < other.sealCount ? other.sealAt(k) : 1;
            spare.addSeal(field.sealProduct(left, isTakenOff ? field.inverseSeal(right) : right));
        }
    }

    /** Whether the SET, which is THERE (or empty), AGREES; an EMPTY DEAL never does. */
    private boolean isInLine(Deal asked, int set) {
        if (asked.isEmpty()) {
            return false;
        }
        poly.goThrough(field, asked, set);
        return poly.highest() <= asked.degree;
    }

    private int suspectSet(Deal asked) {
        int all = asked.holderSet();
        int found = 0;
        for (int holder = 1; holder <= field.holders; holder++) {
            if (isIn(all, holder) && isInLine(asked, all & ~bitOf(holder))) {
                found |= bitOf(holder);
            }
        }
        return found;
    }

    private int wrongHolder(Deal asked) {
        if (asked.isEmpty()) {
            return REFUSED;
        }
        if (isInLine(asked, asked.holderSet())) {
            return 0;
        }
        if (asked.shareCount() < asked.degree + 3) {
            return REFUSED;
        }
        int found = suspectSet(asked);
        // With so many SHARES two SUSPECTS can not be: both POLYS would share DEGREE + 1 VALUES and be the same.
        for (int holder = 1; holder <= field.holders; holder++) {
            if (isIn(found, holder)) {
                return holder;
            }
        }
        return REFUSED;
    }

    /** p raised to the exponent, or the first such power above MOST_POLYS on the way there. */
    private int polysBeyond(int exponent) {
        int count = 1;
        for (int i = 0; i < exponent && count <= MOST_POLYS; i++) {
            count *= field.prime;
        }
        return count;
    }

    private boolean doesFit(Deal asked, int holder) {
        int right = 1;
        long exponent = 1;
        for (int k = 0; k < asked.sealCount; k++) {
            right = field.sealProduct(right, Field.raise(asked.sealAt(k), exponent, field.great));
            exponent *= holder;
        }
        return field.sealFor(asked.shareAt(holder)) == right;
    }

    private int filledDeals() {
        int count = 0;
        for (int i = 0; i < deals.length; i++) {
            if (!deals[i].isEmpty()) {
                count++;
            }
        }
        return count;
    }

    private boolean areSharesSound(Deal asked) {
        for (int holder = 1; holder <= field.holders; holder++) {
            int share = asked.shareAt(holder);
            if (share != NONE && (share < 0 || share >= field.prime)) {
                return false;
            }
        }
        return true;
    }

    private boolean areSealsSound(Deal asked) {
        for (int k = 0; k < asked.sealCount; k++) {
            if (asked.sealAt(k) < 1 || asked.sealAt(k) >= field.great) {
                return false;
            }
        }
        return !asked.hasSeals() || asked.sealCount == asked.degree + 1;
    }

    private boolean isFirstSealSound() {
        for (int i = 0; i < deals.length; i++) {
            if (deals[i].hasSeals()) {
                int first = deals[i].firstSet();
                return first == 0 || !doAllFit(deals[i], first)
                        || field.sealFor(tell(deals[i], first, 0)) == deals[i].sealAt(0);
            }
        }
        return true;
    }

    private boolean doAllFit(Deal asked, int set) {
        for (int holder = 1; holder <= field.holders; holder++) {
            if (isIn(set, holder) && !doesFit(asked, holder)) {
                return false;
            }
        }
        return true;
    }

    /** The numbers MOD the PRIME, and the SEALS MOD the GREAT PRIME. */
    private static final class Field {
        private int which;
        private int prime;
        private int great;
        private int base;
        private int holders;

        private Field() {
            choose(FIRST_WHICH);
        }

        private void choose(int told) {
            if (told < 0 || told >= PRIMES.length || told >= GREAT_PRIMES.length || told >= BASES.length) {
                return;
            }
            which = told;
            prime = PRIMES[told];
            great = GREAT_PRIMES[told];
            base = BASES[told];
            holders = Math.min(MOST_HOLDERS, prime - 1);
        }

        /** The number is 0 to modulus - 1, the exponent not below 0. */
        private static int raise(int number, long exponent, int modulus) {
            if (modulus <= 0) {
                return 0;
            }
            long result = 1;
            long factor = number;
            long open = exponent;
            for (int bit = 0; bit < 63 && open > 0; bit++) {
                if ((open & 1) == 1) {
                    result = result * factor % modulus;
                }
                factor = factor * factor % modulus;
                open >>= 1;
            }
            return (int) result;
        }

        private int modPrime(long number) {
            if (prime <= 0) {
                return 0;
            }
            long left = number % prime;
            return (int) (left < 0 ? left + prime : left);
        }

        private int inverse(int number) {
            return raise(number, prime - 2, prime);
        }

        private int inverseSeal(int number) {
            return raise(number, great - 2, great);
        }

        private int sealProduct(int first, int second) {
            return great <= 0 ? 0 : (int) ((long) first * second % great);
        }

        private int sealFor(int number) {
            return raise(base, modPrime(number), great);
        }

        private int weightAt(int set, int holder, int place) {
            int x = modPrime(place);
            int above = 1;
            int below = 1;
            for (int other = 1; other <= holders; other++) {
                if (other != holder && isIn(set, other)) {
                    above = modPrime((long) above * (x - other));
                    below = modPrime((long) below * (holder - other));
                }
            }
            return modPrime((long) above * inverse(below));
        }
    }

    /** A POLY; a place in its row that it does not use is 0. */
    private static final class Poly {
        private final int[] row;
        private final int[] term;

        private Poly() {
            row = new int[MOST_DEGREE + 1];
            term = new int[MOST_DEGREE + 1];
        }

        private void clear() {
            for (int k = 0; k < row.length; k++) {
                row[k] = 0;
            }
        }

        private int at(int k) {
            return k >= 0 && k < row.length ? row[k] : 0;
        }

        private void addTo(Field field, int k, int factor, int number) {
            if (k >= 0 && k < row.length) {
                row[k] = field.modPrime(row[k] + (long) factor * number);
            }
        }

        private void become(Field field, int degree, int a, int b, int c, int d) {
            clear();
            addTo(field, 0, 1, a);
            if (degree >= 1) {
                addTo(field, 1, 1, b);
            }
            if (degree >= 2) {
                addTo(field, 2, 1, c);
            }
            if (degree >= 3) {
                addTo(field, 3, 1, d);
            }
        }

        private int valueAt(Field field, int place) {
            int value = 0;
            for (int k = row.length - 1; k >= 0; k--) {
                value = field.modPrime((long) value * place + row[k]);
            }
            return value;
        }

        private int highest() {
            for (int k = row.length - 1; k >= 0; k--) {
                if (row[k] != 0) {
                    return k;
                }
            }
            return NONE;
        }

        /** Becomes the POLY THROUGH the SET, which is THERE; through nobody it is 0. */
        private void goThrough(Field field, Deal deal, int set) {
            clear();
            for (int holder = 1; holder <= field.holders; holder++) {
                if (isIn(set, holder)) {
                    int below = makeTerm(field, set, holder);
                    int factor = field.modPrime((long) deal.shareAt(holder) * field.inverse(below));
                    addTerm(field, factor);
                }
            }
        }

        /** Makes the product of all (x - j), j the others of the SET, and answers what it is at the HOLDER. */
        private int makeTerm(Field field, int set, int holder) {
            int value = 1;
            for (int k = 0; k < term.length; k++) {
                term[k] = k == 0 ? 1 : 0;
            }
            for (int other = 1; other <= field.holders; other++) {
                if (other != holder && isIn(set, other)) {
                    for (int k = term.length - 1; k >= 0; k--) {
                        int shifted = k > 0 ? term[k - 1] : 0;
                        term[k] = field.modPrime(shifted - (long) other * term[k]);
                    }
                    value = field.modPrime((long) value * (holder - other));
                }
            }
            return value;
        }

        private void addTerm(Field field, int factor) {
            for (int k = 0; k < row.length && k < term.length; k++) {
                row[k] = field.modPrime(row[k] + (long) factor * term[k]);
            }
        }
    }

    /** A DEAL; what an EMPTY one holds is as if it had neither SHARES nor SEALS. */
    private static final class Deal {
        private boolean isFilled;
        private int degree;
        private int sealCount;
        private final int[] shareRow;
        private final int[] sealRow;

        private Deal() {
            shareRow = new int[MOST_HOLDERS + 1];
            sealRow = new int[MOST_DEGREE + 1];
            clear();
        }

        private void clear() {
            isFilled = false;
            degree = 0;
            sealCount = 0;
            for (int holder = 0; holder < shareRow.length; holder++) {
                shareRow[holder] = NONE;
            }
        }

        private void start(int told) {
            clear();
            isFilled = true;
            degree = told;
        }

        private void take(Deal other) {
            isFilled = other.isFilled;
            degree = other.degree;
            sealCount = other.sealCount;
            for (int holder = 1; holder < shareRow.length; holder++) {
                shareRow[holder] = other.shareAt(holder);
            }
            for (int k = 0; k < sealRow.length; k++) {
                sealRow[k] = other.sealAt(k);
            }
        }

        private boolean isEmpty() {
            return !isFilled;
        }

        private int shareAt(int holder) {
            return holder >= 1 && holder < shareRow.length ? shareRow[holder] : NONE;
        }

        private boolean hasShare(int holder) {
            return shareAt(holder) != NONE;
        }

        private void setShare(int holder, int share) {
            if (holder >= 1 && holder < shareRow.length) {
                shareRow[holder] = share;
            }
        }

        private int holderSet() {
            int set = 0;
            for (int holder = 1; holder < shareRow.length; holder++) {
                if (shareRow[holder] != NONE) {
                    set |= bitOf(holder);
                }
            }
            return set;
        }

        private int shareCount() {
            return Integer.bitCount(holderSet());
        }

        /** The SET of those DEGREE + 1 HOLDERS with a SHARE who have the smallest numbers; 0, if fewer have one. */
        private int firstSet() {
            int set = 0;
            int missing = degree + 1;
            for (int holder = 1; holder < shareRow.length && missing > 0; holder++) {
                if (shareRow[holder] != NONE) {
                    set |= bitOf(holder);
                    missing--;
                }
            }
            return missing == 0 ? set : 0;
        }

        private boolean isThere(int set) {
            return isFilled && (holderSet() & set) == set;
        }

        private boolean isEnough(int set) {
            return isThere(set) && Integer.bitCount(set) > degree;
        }

        private boolean hasSeals() {
            return sealCount > 0;
        }

        private int sealAt(int k) {
            return k >= 0 && k < sealCount && k < sealRow.length ? sealRow[k] : NONE;
        }

        private void setSeal(int k, int seal) {
            if (k >= 0 && k < sealCount && k < sealRow.length) {
                sealRow[k] = seal;
            }
        }

        private void addSeal(int seal) {
            if (sealCount >= 0 && sealCount < sealRow.length) {
                sealRow[sealCount] = seal;
                sealCount++;
            }
        }
    }
}
