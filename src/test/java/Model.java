import java.math.BigDecimal;
import java.math.BigInteger;
import java.math.RoundingMode;
import java.util.ArrayList;
import java.util.List;

/**
 * The document once more, in the plainest way and by other means than the class: with numbers
 * without bound, by search, by the steps of the tree. It has a method of each name of the face.
 */
final class Model {
    private static final BigInteger ZERO = BigInteger.ZERO;
    private static final BigInteger ONE = BigInteger.ONE;
    private static final BigInteger LIMIT = BigInteger.valueOf(1000000000);
    private static final RoundingMode[] MODES = {
        RoundingMode.DOWN, RoundingMode.FLOOR, RoundingMode.CEILING, RoundingMode.HALF_UP,
        RoundingMode.HALF_EVEN
    };

    /** A number without bound. */
    static final class Q {
        final BigInteger top;
        final BigInteger bottom;

        Q(BigInteger top, BigInteger bottom) {
            BigInteger common = top.gcd(bottom);
            BigInteger by = bottom.signum() < 0 ? common.negate() : common;
            this.top = top.divide(by);
            this.bottom = bottom.divide(by);
        }

        static Q of(long top, long bottom) {
            return new Q(BigInteger.valueOf(top), BigInteger.valueOf(bottom));
        }

        Q plus(Q o) {
            return new Q(top.multiply(o.bottom).add(o.top.multiply(bottom)),
                    bottom.multiply(o.bottom));
        }

        Q minus(Q o) {
            return plus(new Q(o.top.negate(), o.bottom));
        }

        Q times(Q o) {
            return new Q(top.multiply(o.top), bottom.multiply(o.bottom));
        }

        Q inverse() {
            return new Q(bottom, top);
        }

        int compare(Q o) {
            return minus(o).top.signum();
        }

        BigInteger floor() {
            BigInteger[] both = top.divideAndRemainder(bottom);
            return both[1].signum() < 0 ? both[0].subtract(ONE) : both[0];
        }

        Q rest() {
            return minus(new Q(floor(), ONE));
        }

        boolean fits() {
            return top.abs().compareTo(LIMIT) <= 0 && bottom.compareTo(LIMIT) <= 0;
        }

        String text() {
            return bottom.equals(ONE) ? top.toString() : top + "/" + bottom;
        }

        BigDecimal cut(int places, int mode) {
            return new BigDecimal(top).divide(new BigDecimal(bottom), places, MODES[mode]);
        }
    }

    private final Q[] ratios = new Q[6];
    private final List<BigInteger> row = new ArrayList<>();
    private Q exact = Q.of(0, 1);
    private BigDecimal rounded = BigDecimal.ZERO;
    private int places;
    private int came;
    private int refusals;
    private int knocks;

    Model() {
        java.util.Arrays.fill(ratios, Q.of(0, 1));
    }

    private Q at(int k) {
        if (k < 0 || k > 5) {
            throw new IndexOutOfBoundsException();
        }
        return ratios[k];
    }

    private static void within(int value, int least, int most) {
        if (value < least || value > most) {
            throw new IllegalArgumentException();
        }
    }

    private int refuse() {
        refusals++;
        return -9;
    }

    /** A null stands for what is refused ahead. */
    private int become(int k, Q number) {
        if (number == null || !number.fits()) {
            return refuse();
        }
        boolean isSame = number.compare(ratios[k]) == 0;
        ratios[k] = number;
        return isSame ? 0 : 1;
    }

    public int put(int r, int top, int bottom) {
        at(r);
        if (bottom == 0) {
            throw new IllegalArgumentException();
        }
        return become(r, Q.of(top, bottom));
    }

    public int putDecimal(int r, int number, int digits) {
        at(r);
        within(digits, 0, 9);
        return become(r, new Q(BigInteger.valueOf(number), BigInteger.TEN.pow(digits)));
    }

    public int copy(int r, int from) {
        at(r);
        return become(r, at(from));
    }

    public int swap(int r, int other) {
        Q first = at(r);
        Q second = at(other);
        ratios[other] = first;
        ratios[r] = second;
        return first.compare(second) == 0 ? 0 : 1;
    }

    public int plus(int into, int one, int other) {
        at(into);
        return become(into, at(one).plus(at(other)));
    }

    public int minus(int into, int one, int other) {
        at(into);
        return become(into, at(one).minus(at(other)));
    }

    public int times(int into, int one, int other) {
        at(into);
        return become(into, at(one).times(at(other)));
    }

    public int over(int into, int one, int other) {
        at(into);
        at(one);
        Q by = at(other);
        return become(into, by.top.signum() == 0 ? null : at(one).times(by.inverse()));
    }

    public int negate(int r) {
        return become(r, Q.of(0, 1).minus(at(r)));
    }

    public int invert(int r) {
        return become(r, at(r).top.signum() == 0 ? null : at(r).inverse());
    }

    public int raise(int r, int times) {
        Q base = at(r);
        within(times, -6, 6);
        Q product = Q.of(1, 1);
        for (int k = 0; k < Math.abs(times); k++) {
            product = product.times(base);
        }
        if (times < 0) {
            product = product.top.signum() == 0 ? null : product.inverse();
        }
        return become(r, product);
    }

    public int mediant(int into, int one, int other) {
        at(into);
        Q a = at(one);
        Q b = at(other);
        return become(into, new Q(a.top.add(b.top), a.bottom.add(b.bottom)));
    }

    public String text(int r) {
        return at(r).text();
    }

    public int part(int r, int what) {
        Q q = at(r);
        within(what, 0, 3);
        return (what == 0 ? q.top : what == 1 ? q.bottom
                : what == 2 ? BigInteger.valueOf(q.top.signum()) : q.floor()).intValueExact();
    }

    public int compare(int one, int other) {
        return at(one).compare(at(other));
    }

    public boolean areNext(int one, int other) {
        Q a = at(one);
        Q b = at(other);
        return a.top.multiply(b.bottom).subtract(b.top.multiply(a.bottom)).abs().equals(ONE);
    }

    private static List<BigInteger> termsOf(Q q) {
        List<BigInteger> terms = new ArrayList<>();
        terms.add(q.floor());
        if (q.rest().top.signum() != 0) {
            terms.addAll(termsOf(q.rest().inverse()));
        }
        return terms;
    }

    private static Q folded(List<BigInteger> terms) {
        Q first = new Q(terms.get(0), ONE);
        return terms.size() == 1 ? first
                : first.plus(folded(terms.subList(1, terms.size())).inverse());
    }

    private static String joined(List<BigInteger> terms) {
        StringBuilder out = new StringBuilder();
        for (BigInteger term : terms) {
            out.append(out.length() > 0 ? " " : "").append(term);
        }
        return out.toString();
    }

    public String terms(int r) {
        return joined(termsOf(at(r)));
    }

    public int term(int r, int k) {
        List<BigInteger> terms = termsOf(at(r));
        within(k, 0, Integer.MAX_VALUE);
        return k < terms.size() ? terms.get(k).intValueExact() : -9;
    }

    public int convergent(int into, int r, int k) {
        at(into);
        List<BigInteger> terms = termsOf(at(r));
        within(k, 0, Integer.MAX_VALUE);
        return become(into, k < terms.size() ? folded(terms.subList(0, k + 1)) : null);
    }

    public int say(int term) {
        within(term, -99999, 99999);
        if (row.size() == 16) {
            throw new IllegalStateException();
        }
        row.add(BigInteger.valueOf(term));
        return row.size();
    }

    public int unsay(int many) {
        within(many, 0, 16);
        for (int k = 0; k < many && !row.isEmpty(); k++) {
            row.remove(row.size() - 1);
        }
        return row.size();
    }

    public String row() {
        return joined(row);
    }

    public int fold(int into) {
        at(into);
        boolean isWrong = row.isEmpty();
        for (int k = 1; k < row.size(); k++) {
            isWrong |= row.get(k).signum() <= 0;
        }
        return become(into, isWrong ? null : folded(row));
    }

    /** The greatest one not above q, with a bottom from 1 to n. */
    private static Q lowerOf(Q q, int n) {
        Q found = new Q(q.floor(), ONE);
        for (int bottom = 2; bottom <= n; bottom++) {
            BigInteger under = BigInteger.valueOf(bottom);
            Q tried = new Q(q.times(new Q(under, ONE)).floor(), under);
            found = tried.compare(found) > 0 ? tried : found;
        }
        return found;
    }

    /** The least one not below q, with a bottom from 1 to n. */
    private static Q upperOf(Q q, int n) {
        Q found = null;
        for (int bottom = n; bottom >= 1; bottom--) {
            BigInteger under = BigInteger.valueOf(bottom);
            Q tried = new Q(q.times(new Q(under, ONE)).floor(), under);
            if (tried.compare(q) < 0) {
                tried = tried.plus(new Q(ONE, under));
            }
            found = found == null || tried.compare(found) < 0 ? tried : found;
        }
        return found;
    }

    public int lower(int into, int r, int n) {
        at(into);
        Q q = at(r);
        within(n, 1, 200);
        return become(into, lowerOf(q, n));
    }

    public int upper(int into, int r, int n) {
        at(into);
        Q q = at(r);
        within(n, 1, 200);
        return become(into, upperOf(q, n));
    }

    public int best(int into, int r, int n) {
        at(into);
        Q q = at(r);
        within(n, 1, 200);
        Q low = lowerOf(q, n);
        Q high = upperOf(q, n);
        int nearer = q.minus(low).compare(high.minus(q));
        if (nearer == 0) {
            nearer = low.bottom.compareTo(high.bottom);
        }
        return become(into, nearer <= 0 ? low : high);
    }

    // The tree, by mediants: from between 0/1 and 1/0, so many steps at once.

    private static List<BigInteger> stepsTo(Q q) {
        List<BigInteger> steps = new ArrayList<>();
        Q x = q;
        while (x.compare(Q.of(1, 1)) != 0) {
            // Steps to the right, as long as it is above 1; then the same in the mirror.
            BigInteger many = ZERO;
            if (x.compare(Q.of(1, 1)) > 0) {
                many = x.bottom.equals(ONE) ? x.top.subtract(ONE) : x.floor();
                x = x.minus(new Q(many, ONE));
            }
            steps.add(many);
            x = x.inverse();
        }
        return steps;
    }

    private static Q along(List<BigInteger> steps) {
        BigInteger[] left = {ZERO, ONE};
        BigInteger[] right = {ONE, ZERO};
        for (int k = 0; k < steps.size(); k++) {
            BigInteger[] moved = k % 2 == 0 ? left : right;
            BigInteger[] held = k % 2 == 0 ? right : left;
            moved[0] = moved[0].add(held[0].multiply(steps.get(k)));
            moved[1] = moved[1].add(held[1].multiply(steps.get(k)));
        }
        return new Q(left[0].add(right[0]), left[1].add(right[1]));
    }

    private static boolean isOutside(Q q) {
        return q.top.signum() <= 0;
    }

    public int up(int r) {
        Q q = at(r);
        if (isOutside(q) || q.compare(Q.of(1, 1)) == 0) {
            return refuse();
        }
        List<BigInteger> steps = stepsTo(q);
        int last = steps.size() - 1;
        steps.set(last, steps.get(last).subtract(ONE));
        return become(r, along(steps));
    }

    public int down(int r, boolean isRight) {
        Q q = at(r);
        if (isOutside(q)) {
            return refuse();
        }
        List<BigInteger> steps = stepsTo(q);
        if (isRight != (steps.size() % 2 == 0)) {
            steps.add(ZERO);
        }
        steps.add(ONE);
        return become(r, along(steps));
    }

    public int depth(int r) {
        Q q = at(r);
        BigInteger sum = ZERO;
        for (BigInteger many : isOutside(q) ? List.<BigInteger>of() : stepsTo(q)) {
            sum = sum.add(many);
        }
        return isOutside(q) ? -9 : sum.intValueExact();
    }

    public String way(int r) {
        Q q = at(r);
        if (isOutside(q)) {
            return "!";
        }
        StringBuilder out = new StringBuilder();
        List<BigInteger> steps = stepsTo(q);
        for (int k = 0; k < steps.size(); k++) {
            if (steps.get(k).signum() > 0) {
                out.append(out.length() > 0 ? " " : "").append(k % 2 == 0 ? "R" : "L");
                out.append(steps.get(k));
            }
        }
        return out.toString();
    }

    private static Q follower(Q q) {
        Q whole = new Q(q.floor(), ONE);
        return whole.plus(whole).plus(Q.of(1, 1)).minus(q).inverse();
    }

    public int next(int r, int many) {
        Q q = at(r);
        within(many, 1, 50);
        if (isOutside(q)) {
            return refuse();
        }
        for (int k = 0; k < many; k++) {
            q = follower(q);
            if (!q.fits()) {
                return refuse();
            }
        }
        return become(r, q);
    }

    public int before(int r) {
        Q q = at(r);
        if (isOutside(q)) {
            return refuse();
        }
        for (int less = 0; less <= 1; less++) {
            BigInteger whole = q.inverse().floor().subtract(BigInteger.valueOf(less));
            Q tried = new Q(whole.shiftLeft(1).add(ONE), ONE).minus(q.inverse());
            if (!isOutside(tried) && follower(tried).compare(q) == 0) {
                return become(r, tried);
            }
        }
        return refuse();
    }

    public String cut(int r, int digits, int mode) {
        Q q = at(r);
        within(digits, 0, 9);
        within(mode, 0, 4);
        return q.cut(digits, mode).toPlainString();
    }

    public int simplest(int into, int r, int digits, int mode) {
        at(into);
        Q q = at(r);
        within(digits, 0, 2);
        within(mode, 0, 4);
        BigDecimal wanted = q.cut(digits, mode);
        for (int bottom = 1; ; bottom++) {
            BigInteger under = BigInteger.valueOf(bottom);
            BigInteger middle = q.times(new Q(under, ONE)).floor();
            for (int off = -3; off <= 3; off++) {
                Q tried = new Q(middle.add(BigInteger.valueOf(off)), under);
                if (tried.cut(digits, mode).compareTo(wanted) == 0) {
                    return become(into, tried);
                }
            }
        }
    }

    private static Q numberOf(BigDecimal decimal) {
        return new Q(decimal.unscaledValue(), BigInteger.TEN.pow(decimal.scale()));
    }

    public int tally(int r, int digits, int mode) {
        Q q = at(r);
        within(digits, 0, 4);
        within(mode, 0, 4);
        Q newExact = exact.plus(q);
        BigDecimal newRounded = rounded.add(q.cut(digits, mode));
        Q newError = newExact.minus(numberOf(newRounded));
        if (!newExact.fits() || !numberOf(newRounded).fits() || !newError.fits()) {
            return refuse();
        }
        exact = newExact;
        rounded = newRounded;
        places = Math.max(places, digits);
        return ++came;
    }

    public int wipe() {
        int had = came;
        came = 0;
        places = 0;
        exact = Q.of(0, 1);
        rounded = BigDecimal.ZERO;
        return had;
    }

    public String exact() {
        return exact.text();
    }

    public String rounded() {
        return rounded.setScale(places, RoundingMode.UNNECESSARY).toPlainString();
    }

    public String error() {
        return exact.minus(numberOf(rounded)).text();
    }

    public int knock() {
        return ++knocks;
    }

    public int house(int what) {
        within(what, 0, 4);
        int whole = 0;
        for (Q q : ratios) {
            whole += q.bottom.equals(ONE) ? 1 : 0;
        }
        return new int[] {whole, refusals, knocks, row.size(), came}[what];
    }

    /** All of what it asks for holds of all numbers. */
    public boolean isSound() {
        return true;
    }

    public long digest() {
        List<Long> all = new ArrayList<>();
        for (int what = 0; what <= 4; what++) {
            all.add((long) house(what));
        }
        for (int r = 0; r < 6; r++) {
            for (int what = 0; what <= 3; what++) {
                all.add((long) part(r, what));
            }
            all.add((long) termsOf(ratios[r]).size());
            all.add((long) depth(r));
            all.add((long) way(r).length());
            for (int mode = 0; mode <= 4; mode++) {
                all.add((long) cut(r, 3, mode).length());
            }
        }
        for (int a = 0; a < 6; a++) {
            for (int b = a + 1; b < 6; b++) {
                all.add((long) compare(a, b));
                all.add(areNext(a, b) ? 1L : 0L);
            }
        }
        for (BigInteger term : row) {
            all.add(term.longValueExact());
        }
        all.add((long) exact().length());
        all.add((long) rounded().length());
        all.add((long) error().length());
        all.add(isSound() ? 1L : 0L);
        BigInteger d = BigInteger.valueOf(7846);
        for (long v : all) {
            d = d.multiply(BigInteger.valueOf(31)).add(BigInteger.valueOf(v));
        }
        return d.longValue();
    }
}
