import java.math.BigInteger;
import java.util.ArrayList;
import java.util.List;
import java.util.TreeMap;

/**
 * The document once more, in another way, to compare answers with: POLYS are found by elimination,
 * AGREEING by elimination too, ways() by trying all POLYS, and numbers are BigIntegers.
 */
final class Model {
    private static final int[][] FIELDS = {
        {5, 11, 3}, {7, 29, 7}, {11, 23, 2}, {13, 53, 10}, {101, 607, 7}, {65537, 917519, 5}, {1000003, 36000109, 76}};

    private static final class Held {
        int degree;
        TreeMap<Integer, BigInteger> shares = new TreeMap<>();
        List<BigInteger> seals = null;
    }

    private int which = 3;
    private int knocks = 0;
    private Held[] deals = new Held[6];

    // ---- words of the document

    private BigInteger p() {
        return BigInteger.valueOf(FIELDS[which][0]);
    }

    private BigInteger q() {
        return BigInteger.valueOf(FIELDS[which][1]);
    }

    private BigInteger g() {
        return BigInteger.valueOf(FIELDS[which][2]);
    }

    private int m() {
        return FIELDS[which][0] - 1 < 7 ? FIELDS[which][0] - 1 : 7;
    }

    private BigInteger mod(long n) {
        return BigInteger.valueOf(n).mod(p());
    }

    private Held deal(int deal) {
        if (deal < 0 || deal > 5) {
            throw new IndexOutOfBoundsException();
        }
        return deals[deal];
    }

    private void holder(int holder) {
        if (holder < 1 || holder > m()) {
            throw new IndexOutOfBoundsException();
        }
    }

    private List<Integer> set(int set) {
        if (set < 1 || set > Math.pow(2, m()) - 1) {
            throw new IllegalArgumentException();
        }
        List<Integer> holders = new ArrayList<>();
        for (int h = 1; h <= m(); h++) {
            if (set / (1 << (h - 1)) % 2 == 1) {
                holders.add(h);
            }
        }
        return holders;
    }

    private static void within(int n, int from, int to) {
        if (n < from || n > to) {
            throw new IllegalArgumentException();
        }
    }

    private BigInteger weigh(List<Integer> set, int holder, BigInteger x) {
        BigInteger product = BigInteger.ONE;
        for (int j : set) {
            if (j != holder) {
                product = product.multiply(x.subtract(BigInteger.valueOf(j)));
                product = product.multiply(BigInteger.valueOf(holder - j).modInverse(p())).mod(p());
            }
        }
        return product.mod(p());
    }

    private BigInteger tells(Held d, List<Integer> set, BigInteger x) {
        BigInteger sum = BigInteger.ZERO;
        for (int h : set) {
            sum = sum.add(d.shares.get(h).multiply(weigh(set, h, x)));
        }
        return sum.mod(p());
    }

    private BigInteger value(List<BigInteger> poly, int x) {
        BigInteger sum = BigInteger.ZERO;
        for (int k = 0; k < poly.size(); k++) {
            sum = sum.add(poly.get(k).multiply(BigInteger.valueOf(x).pow(k)));
        }
        return sum.mod(p());
    }

    /** The POLY with so many COEFFICIENTS and the SHARES of the SET, by elimination; null if there is none. */
    private List<BigInteger> solve(Held d, List<Integer> set, int size) {
        int rows = set.size();
        BigInteger[][] a = new BigInteger[rows][size + 1];
        for (int r = 0; r < rows; r++) {
            for (int k = 0; k < size; k++) {
                a[r][k] = BigInteger.valueOf(set.get(r)).pow(k).mod(p());
            }
            a[r][size] = d.shares.get(set.get(r));
        }
        int[] lead = new int[size];
        int done = 0;
        for (int k = 0; k < size; k++) {
            int found = done;
            while (found < rows && a[found][k].signum() == 0) {
                found++;
            }
            lead[k] = -1;
            if (found == rows) {
                continue;
            }
            BigInteger[] row = a[found];
            a[found] = a[done];
            a[done] = row;
            BigInteger by = row[k].modInverse(p());
            for (int c = 0; c <= size; c++) {
                row[c] = row[c].multiply(by).mod(p());
            }
            for (int r = 0; r < rows; r++) {
                if (r != done) {
                    BigInteger times = a[r][k];
                    for (int c = 0; c <= size; c++) {
                        a[r][c] = a[r][c].subtract(times.multiply(row[c])).mod(p());
                    }
                }
            }
            lead[k] = done;
            done++;
        }
        for (int r = done; r < rows; r++) {
            if (a[r][size].signum() != 0) {
                return null;
            }
        }
        List<BigInteger> poly = new ArrayList<>();
        for (int k = 0; k < size; k++) {
            poly.add(lead[k] < 0 ? BigInteger.ZERO : a[lead[k]][size]);
        }
        return poly;
    }

    private boolean isThere(Held d, List<Integer> set) {
        return d != null && d.shares.keySet().containsAll(set);
    }

    private boolean isEnough(Held d, List<Integer> set) {
        return isThere(d, set) && set.size() > d.degree;
    }

    private boolean doesAgree(Held d, List<Integer> set) {
        return solve(d, set, d.degree + 1) != null;
    }

    private boolean doesAgree(Held d) {
        return d != null && doesAgree(d, new ArrayList<>(d.shares.keySet()));
    }

    private List<Integer> suspectsOf(Held d) {
        List<Integer> found = new ArrayList<>();
        for (int h : d.shares.keySet()) {
            List<Integer> others = new ArrayList<>(d.shares.keySet());
            others.remove((Integer) h);
            if (doesAgree(d, others)) {
                found.add(h);
            }
        }
        return found;
    }

    private static int asSet(Iterable<Integer> holders) {
        int sum = 0;
        for (int h : holders) {
            sum += (int) Math.pow(2, h - 1);
        }
        return sum;
    }

    private List<BigInteger> poly(int degree, long... numbers) {
        List<BigInteger> poly = new ArrayList<>();
        for (int k = 0; k <= degree; k++) {
            poly.add(k < numbers.length ? mod(numbers[k]) : BigInteger.ZERO);
        }
        return poly;
    }

    private Held ofPoly(List<BigInteger> poly) {
        Held made = new Held();
        made.degree = poly.size() - 1;
        for (int h = 1; h <= m(); h++) {
            made.shares.put(h, value(poly, h));
        }
        made.seals = new ArrayList<>();
        for (BigInteger c : poly) {
            made.seals.add(g().modPow(c, q()));
        }
        return made;
    }

    private boolean doesFit(Held d, int h) {
        BigInteger right = BigInteger.ONE;
        for (int k = 0; k < d.seals.size(); k++) {
            right = right.multiply(d.seals.get(k).modPow(BigInteger.valueOf(h).pow(k), q())).mod(q());
        }
        return g().modPow(d.shares.get(h), q()).equals(right);
    }

    // ---- the face

    int prime(int told) {
        within(told, 0, 6);
        int before = p().intValue();
        which = told;
        deals = new Held[6];
        return before;
    }

    int rest(int number) {
        return mod(number).intValue();
    }

    int reckon(int first, int second, int how) {
        within(how, 0, 3);
        BigInteger a = BigInteger.valueOf(first);
        BigInteger b = BigInteger.valueOf(second);
        if (how == 0) {
            return a.add(b).mod(p()).intValue();
        } else if (how == 1) {
            return a.subtract(b).mod(p()).intValue();
        } else if (how == 2) {
            return a.multiply(b).mod(p()).intValue();
        }
        return rest(second) == 0 ? -9 : a.multiply(b.modInverse(p())).mod(p()).intValue();
    }

    int reciprocal(int number) {
        return rest(number) == 0 ? -9 : mod(number).modInverse(p()).intValue();
    }

    int power(int number, int exponent) {
        if (exponent < 0 && rest(number) == 0) {
            return -9;
        }
        return mod(number).modPow(BigInteger.valueOf(exponent), p()).intValue();
    }

    int sealOf(int number) {
        return g().modPow(mod(number), q()).intValue();
    }

    int weight(int set, int holder, int place) {
        holder(holder);
        List<Integer> all = set(set);
        return all.contains(holder) ? weigh(all, holder, BigInteger.valueOf(place)).intValue() : -9;
    }

    int weights(int set, int place) {
        BigInteger sum = BigInteger.ZERO;
        for (int h : set(set)) {
            sum = sum.add(weigh(set(set), h, BigInteger.valueOf(place)));
        }
        return sum.mod(p()).intValue();
    }

    int hide(int deal, int degree, int a, int b, int c, int d) {
        deal(deal);
        within(degree, 0, 3);
        deals[deal] = ofPoly(poly(degree, a, b, c, d));
        return m();
    }

    int pour(int deal, int a, int b, int c, int d) {
        Held held = deal(deal);
        if (held == null) {
            return -9;
        }
        List<BigInteger> poured = poly(held.degree, a, b, c, d);
        held.shares.replaceAll((h, s) -> s.add(value(poured, h)).mod(p()));
        if (held.seals != null) {
            for (int k = 0; k <= held.degree; k++) {
                BigInteger by = g().modPow(poured.get(k), q());
                held.seals.set(k, held.seals.get(k).multiply(by).mod(q()));
            }
        }
        return held.shares.size();
    }

    private int put(int first, int second, int to, int sign) {
        Held a = deal(first);
        Held b = deal(second);
        deal(to);
        if (a == null || b == null) {
            return -9;
        }
        Held made = new Held();
        made.degree = a.degree > b.degree ? a.degree : b.degree;
        for (int h : a.shares.keySet()) {
            if (b.shares.containsKey(h)) {
                BigInteger second1 = b.shares.get(h).multiply(BigInteger.valueOf(sign));
                made.shares.put(h, a.shares.get(h).add(second1).mod(p()));
            }
        }
        if (a.seals != null && b.seals != null) {
            made.seals = new ArrayList<>();
            for (int k = 0; k <= made.degree; k++) {
                BigInteger seal = BigInteger.ONE;
                if (k <= a.degree) {
                    seal = a.seals.get(k);
                }
                if (k <= b.degree) {
                    BigInteger other = b.seals.get(k);
                    seal = seal.multiply(sign < 0 ? other.modInverse(q()) : other).mod(q());
                }
                made.seals.add(seal);
            }
        }
        deals[to] = made;
        return made.shares.size();
    }

    int plus(int first, int second, int to) {
        return put(first, second, to, 1);
    }

    int less(int first, int second, int to) {
        return put(first, second, to, -1);
    }

    int times(int first, int second, int to) {
        Held a = deal(first);
        Held b = deal(second);
        deal(to);
        if (a == null || b == null || a.degree + b.degree > 6) {
            return -9;
        }
        Held made = new Held();
        made.degree = a.degree + b.degree;
        for (int h : a.shares.keySet()) {
            if (b.shares.containsKey(h)) {
                made.shares.put(h, a.shares.get(h).multiply(b.shares.get(h)).mod(p()));
            }
        }
        deals[to] = made;
        return made.shares.size();
    }

    int scale(int deal, int by, int to) {
        Held a = deal(deal);
        deal(to);
        if (a == null) {
            return -9;
        }
        Held made = new Held();
        made.degree = a.degree;
        for (int h : a.shares.keySet()) {
            made.shares.put(h, a.shares.get(h).multiply(mod(by)).mod(p()));
        }
        if (a.seals != null) {
            made.seals = new ArrayList<>();
            for (BigInteger seal : a.seals) {
                made.seals.add(seal.modPow(mod(by), q()));
            }
        }
        deals[to] = made;
        return made.shares.size();
    }

    int handOn(int deal, int set, int to, int degree, int a, int b) {
        Held held = deal(deal);
        deal(to);
        List<Integer> all = set(set);
        within(degree, 0, 3);
        if (!isEnough(held, all)) {
            return -9;
        }
        List<BigInteger> sum = poly(degree);
        for (int h : all) {
            List<BigInteger> own = poly(degree);
            own.set(0, held.shares.get(h));
            for (int k = 1; k <= degree; k++) {
                own.set(k, mod((long) a * h + (long) b * k));
            }
            for (int k = 0; k <= degree; k++) {
                sum.set(k, sum.get(k).add(own.get(k).multiply(weigh(all, h, BigInteger.ZERO))).mod(p()));
            }
        }
        deals[to] = ofPoly(sum);
        return m();
    }

    int lose(int deal, int holder) {
        Held held = deal(deal);
        holder(holder);
        if (held == null || !held.shares.containsKey(holder)) {
            return -9;
        }
        return held.shares.remove(holder).intValue();
    }

    int give(int deal, int holder, int value) {
        Held held = deal(deal);
        holder(holder);
        if (held == null) {
            return -9;
        }
        BigInteger before = held.shares.put(holder, mod(value));
        return before == null ? -1 : before.intValue();
    }

    int regain(int deal, int holder, int set) {
        Held held = deal(deal);
        holder(holder);
        List<Integer> all = set(set);
        if (!isEnough(held, all)) {
            return -9;
        }
        BigInteger told = tells(held, all, BigInteger.valueOf(holder));
        held.shares.put(holder, told);
        return told.intValue();
    }

    int mend(int deal) {
        int holder = wrong(deal);
        if (holder > 0) {
            List<Integer> others = new ArrayList<>(deals[deal].shares.keySet());
            others.remove((Integer) holder);
            deals[deal].shares.put(holder, tells(deals[deal], others, BigInteger.valueOf(holder)));
        }
        return holder;
    }

    int copy(int deal, int to) {
        Held held = deal(deal);
        deal(to);
        Held made = null;
        if (held != null) {
            made = new Held();
            made.degree = held.degree;
            made.shares = new TreeMap<>(held.shares);
            made.seals = held.seals == null ? null : new ArrayList<>(held.seals);
        }
        deals[to] = made;
        return made == null ? 0 : made.shares.size();
    }

    int drop(int deal) {
        Held held = deal(deal);
        deals[deal] = null;
        return held == null ? 0 : held.shares.size();
    }

    int knock() {
        return ++knocks;
    }

    int share(int deal, int holder) {
        Held held = deal(deal);
        holder(holder);
        return held == null || !held.shares.containsKey(holder) ? -1 : held.shares.get(holder).intValue();
    }

    int ofDeal(int deal, int what) {
        Held held = deal(deal);
        within(what, 0, 5);
        if (held == null) {
            return what == 0 || what == 5 ? -1 : 0;
        }
        List<Integer> all = new ArrayList<>(held.shares.keySet());
        if (what == 0) {
            return held.degree;
        } else if (what == 1) {
            return all.size();
        } else if (what == 2) {
            return asSet(all);
        } else if (what == 3) {
            return held.seals == null ? 0 : 1;
        } else if (what == 4) {
            return doesAgree(held) ? 1 : 0;
        }
        if (all.size() < held.degree + 1) {
            return -1;
        }
        return tells(held, all.subList(0, held.degree + 1), BigInteger.ZERO).intValue();
    }

    int told(int deal, int set, int place) {
        Held held = deal(deal);
        List<Integer> all = set(set);
        return isThere(held, all) ? tells(held, all, BigInteger.valueOf(place)).intValue() : -9;
    }

    int open(int deal, int set) {
        Held held = deal(deal);
        List<Integer> all = set(set);
        return isEnough(held, all) ? tells(held, all, BigInteger.ZERO).intValue() : -9;
    }

    int coefficient(int deal, int set, int k) {
        Held held = deal(deal);
        List<Integer> all = set(set);
        within(k, 0, 6);
        if (!isThere(held, all)) {
            return -9;
        }
        return k >= all.size() ? 0 : solve(held, all, all.size()).get(k).intValue();
    }

    int degreeBy(int deal, int set) {
        Held held = deal(deal);
        List<Integer> all = set(set);
        if (!isThere(held, all)) {
            return -9;
        }
        List<BigInteger> poly = solve(held, all, all.size());
        for (int k = all.size() - 1; k >= 0; k--) {
            if (poly.get(k).signum() != 0) {
                return k;
            }
        }
        return -1;
    }

    int agrees(int deal, int set) {
        Held held = deal(deal);
        List<Integer> all = set(set);
        if (!isThere(held, all)) {
            return -9;
        }
        return doesAgree(held, all) ? 1 : 0;
    }

    int suspects(int deal) {
        Held held = deal(deal);
        return held == null ? -9 : asSet(suspectsOf(held));
    }

    int wrong(int deal) {
        Held held = deal(deal);
        if (held == null) {
            return -9;
        }
        if (doesAgree(held)) {
            return 0;
        }
        List<Integer> found = suspectsOf(held);
        if (held.shares.size() < held.degree + 3 || found.isEmpty()) {
            return -9;
        }
        Check.due("how many suspects of " + held.shares, found.size(), 1);
        return found.get(0);
    }

    int ways(int deal, int set, int number) {
        Held held = deal(deal);
        List<Integer> all = set(set);
        if (!isThere(held, all) || p().pow(held.degree).compareTo(BigInteger.valueOf(125)) > 0) {
            return -9;
        }
        int tries = p().pow(held.degree).intValue();
        int found = 0;
        for (int i = 0; i < tries; i++) {
            List<BigInteger> poly = new ArrayList<>();
            poly.add(mod(number));
            int left = i;
            for (int k = 1; k <= held.degree; k++) {
                poly.add(BigInteger.valueOf(left % p().intValue()));
                left /= p().intValue();
            }
            boolean isOne = true;
            for (int h : all) {
                isOne &= value(poly, h).equals(held.shares.get(h));
            }
            found += isOne ? 1 : 0;
        }
        return found;
    }

    int total(int deal, int set) {
        Held held = deal(deal);
        List<Integer> all = set(set);
        if (!isThere(held, all)) {
            return -9;
        }
        int sum = 0;
        for (int h : all) {
            sum += held.shares.get(h).intValue();
        }
        return sum;
    }

    int seal(int deal, int k) {
        Held held = deal(deal);
        within(k, 0, 6);
        return held == null || held.seals == null || k > held.degree ? -1 : held.seals.get(k).intValue();
    }

    int fits(int deal, int holder) {
        Held held = deal(deal);
        holder(holder);
        if (held == null || held.seals == null || !held.shares.containsKey(holder)) {
            return -9;
        }
        return doesFit(held, holder) ? 1 : 0;
    }

    int order(int first, int second, int holder) {
        deal(first);
        deal(second);
        int a = share(first, holder);
        int b = share(second, holder);
        return a < 0 || b < 0 ? -9 : Integer.compare(a, b);
    }

    int most(int deal, boolean isLeast) {
        Held held = deal(deal);
        if (held == null) {
            return -9;
        }
        int best = 0;
        for (int h : held.shares.keySet()) {
            int sign = best == 0 ? 1 : held.shares.get(h).compareTo(held.shares.get(best));
            if (best == 0 || sign == (isLeast ? -1 : 1)) {
                best = h;
            }
        }
        return best;
    }

    String text(int deal) {
        Held held = deal(deal);
        if (held == null) {
            return "";
        }
        List<String> words = new ArrayList<>();
        for (int h = 1; h <= m(); h++) {
            words.add(held.shares.containsKey(h) ? held.shares.get(h).toString() : "-");
        }
        return String.join(" ", words);
    }

    String seals(int deal) {
        Held held = deal(deal);
        List<String> words = new ArrayList<>();
        if (held != null && held.seals != null) {
            for (BigInteger seal : held.seals) {
                words.add(seal.toString());
            }
        }
        return String.join(" ", words);
    }

    boolean isSame(int first, int second) {
        Held a = deal(first);
        Held b = deal(second);
        if (a == null || b == null) {
            return a == b;
        }
        return a.degree == b.degree && a.shares.equals(b.shares);
    }

    int house(int what) {
        within(what, 0, 6);
        int filled = 0;
        for (Held held : deals) {
            filled += held == null ? 0 : 1;
        }
        int[] all = {which, FIELDS[which][0], FIELDS[which][1], FIELDS[which][2], m(), filled, knocks};
        return all[what];
    }

    boolean isSound() {
        boolean isSound = weights((1 << m()) - 1, 0) == 1;
        boolean isFirst = true;
        for (Held held : deals) {
            if (held == null) {
                continue;
            }
            for (BigInteger share : held.shares.values()) {
                isSound &= share.signum() >= 0 && share.compareTo(p()) < 0;
            }
            if (held.seals == null) {
                continue;
            }
            isSound &= held.seals.size() == held.degree + 1;
            for (BigInteger seal : held.seals) {
                isSound &= seal.signum() > 0 && seal.compareTo(q()) < 0;
            }
            if (isFirst && held.shares.size() > held.degree) {
                List<Integer> first = new ArrayList<>(held.shares.keySet()).subList(0, held.degree + 1);
                boolean isFit = true;
                for (int h : first) {
                    isFit &= doesFit(held, h);
                }
                BigInteger due = g().modPow(tells(held, first, BigInteger.ZERO), q());
                isSound &= !isFit || due.equals(held.seals.get(0));
            }
            isFirst = false;
        }
        return isSound;
    }

    long digest() {
        List<Long> all = new ArrayList<>();
        for (int what = 0; what < 7; what++) {
            all.add((long) house(what));
        }
        for (int deal = 0; deal < 6; deal++) {
            for (int what = 0; what < 4; what++) {
                all.add((long) ofDeal(deal, what));
            }
            for (int h = 1; h <= m(); h++) {
                all.add((long) share(deal, h));
            }
            for (int k = 0; k < 4; k++) {
                all.add((long) seal(deal, k));
            }
        }
        all.add(isSound() ? 1L : 0L);
        BigInteger d = BigInteger.valueOf(7977);
        for (long v : all) {
            d = d.multiply(BigInteger.valueOf(31)).add(BigInteger.valueOf(v));
        }
        return d.longValue();
    }
}
