/**
 * Ratios of whole numbers, told exactly: reckoned with, taken apart into terms and folded again,
 * held against the best ones with small bottoms, found in the tree of all ratios, cut to decimals
 * and led back to the simplest ratio; and a tally of decimals, whose error is told exactly.
 *
 * <p>Words in capitals are those of the document. Everything that a call needs to reckon with is
 * made once, in the constructor; a call makes at most the builder of its text.
 */
public final class Bestratios {
    private static final int REFUSED = -9;
    private static final String REFUSED_TEXT = "!";
    private static final int RATIO_COUNT = 6;
    private static final long FIT_LIMIT = 1000000000L;
    private static final int ROW_LIMIT = 16;
    private static final int SAID_LIMIT = 99999;
    private static final int TIMES_LIMIT = 6;
    private static final int BOUND_LIMIT = 200;
    private static final int NEXT_LIMIT = 50;
    private static final int CUT_PLACES_LIMIT = 9;
    private static final int SIMPLEST_PLACES_LIMIT = 2;
    private static final int TALLY_PLACES_LIMIT = 4;
    private static final int MODE_LIMIT = 4;
    private static final int WHAT_PART_LIMIT = 3;
    private static final int WHAT_HOUSE_LIMIT = 4;
    private static final int SOUND_BOUND = 12;
    private static final int SOUND_PLACES = 2;
    private static final int DIGEST_PLACES = 3;
    private static final long DIGEST_START = 7846L;
    private static final long DIGEST_FACTOR = 31L;

    private static final long[] POWERS_OF_TEN = {
        1L, 10L, 100L, 1000L, 10000L, 100000L, 1000000L, 10000000L, 100000000L, 1000000000L
    };

    /** The longest chain of divisions of two long numbers has fewer than 100 steps. */
    private static final int DIVISION_STEPS = 200;

    /** No RATIO, nor one below it in the TREE, has more than some 46 TERMS. */
    private static final int TERMS_ROOM = 64;

    /**
     * A bottom above this can't come to FIT any more. It stands above the bottoms of all that
     * isSound() reckons without FIT, and low enough that no product in a FOLD leaves a long.
     */
    private static final long FOLD_LIMIT = 4L * FIT_LIMIT;

    private final Fraction[] ratios;
    private final Terms said;
    private final Tally tallied;
    private int refusals;
    private int knocks;

    // What a call reckons with; nothing in these outlives the call.
    private final Fraction made;
    private final Fraction below;
    private final Fraction above;
    private final Terms found;

    public Bestratios() {
        ratios = new Fraction[RATIO_COUNT];
        for (int k = 0; k < ratios.length; k++) {
            ratios[k] = new Fraction();
        }
        said = new Terms();
        tallied = new Tally();
        refusals = 0;
        knocks = 0;
        made = new Fraction();
        below = new Fraction();
        above = new Fraction();
        found = new Terms();
    }

    // ---- ratios

    public int put(int ratio, int top, int bottom)
            throws IndexOutOfBoundsException, IllegalArgumentException {
        Fraction target = ratioAt(ratio);
        if (bottom == 0) {
            throw new IllegalArgumentException("the bottom is 0");
        }
        made.become(top, bottom);
        return settle(target);
    }

    public int putDecimal(int ratio, int number, int places)
            throws IndexOutOfBoundsException, IllegalArgumentException {
        Fraction target = ratioAt(ratio);
        requireWithin(places, 0, CUT_PLACES_LIMIT);
        made.become(number, powerOfTen(places));
        return settle(target);
    }

    public int copy(int ratio, int from) throws IndexOutOfBoundsException {
        Fraction target = ratioAt(ratio);
        made.assign(ratioAt(from));
        return settle(target);
    }

    public int swap(int ratio, int other) throws IndexOutOfBoundsException {
        Fraction first = ratioAt(ratio);
        Fraction second = ratioAt(other);
        made.assign(second);
        second.assign(first);
        return settle(first);
    }

    public int plus(int into, int one, int other) throws IndexOutOfBoundsException {
        Fraction target = ratioAt(into);
        made.becomeSum(ratioAt(one), ratioAt(other));
        return settle(target);
    }

    public int minus(int into, int one, int other) throws IndexOutOfBoundsException {
        Fraction target = ratioAt(into);
        made.becomeDifference(ratioAt(one), ratioAt(other));
        return settle(target);
    }

    public int times(int into, int one, int other) throws IndexOutOfBoundsException {
        Fraction target = ratioAt(into);
        made.becomeProduct(ratioAt(one), ratioAt(other));
        return settle(target);
    }

    public int over(int into, int one, int other) throws IndexOutOfBoundsException {
        Fraction target = ratioAt(into);
        Fraction dividend = ratioAt(one);
        Fraction divisor = ratioAt(other);
        if (divisor.sign() == 0) {
            return refuse();
        }
        made.becomeQuotient(dividend, divisor);
        return settle(target);
    }

    public int negate(int ratio) throws IndexOutOfBoundsException {
        Fraction target = ratioAt(ratio);
        made.become(-target.top, target.bottom);
        return settle(target);
    }

    public int invert(int ratio) throws IndexOutOfBoundsException {
        Fraction target = ratioAt(ratio);
        if (target.sign() == 0) {
            return refuse();
        }
        made.become(target.bottom, target.top);
        return settle(target);
    }

    public int raise(int ratio, int times)
            throws IndexOutOfBoundsException, IllegalArgumentException {
        Fraction target = ratioAt(ratio);
        requireWithin(times, -TIMES_LIMIT, TIMES_LIMIT);
        if (times < 0 && target.sign() == 0) {
            return refuse();
        }
        made.becomePower(target, times);
        return settle(target);
    }

    public int mediant(int into, int one, int other) throws IndexOutOfBoundsException {
        Fraction target = ratioAt(into);
        made.becomeMediant(ratioAt(one), ratioAt(other));
        return settle(target);
    }

    public String text(int ratio) throws IndexOutOfBoundsException {
        return textOf(ratioAt(ratio));
    }

    public int part(int ratio, int what)
            throws IndexOutOfBoundsException, IllegalArgumentException {
        Fraction number = ratioAt(ratio);
        requireWithin(what, 0, WHAT_PART_LIMIT);
        return (int) partOf(number, what);
    }

    public int compare(int one, int other) throws IndexOutOfBoundsException {
        return ratioAt(one).compareWith(ratioAt(other));
    }

    public boolean areNext(int one, int other) throws IndexOutOfBoundsException {
        return ratioAt(one).isNextTo(ratioAt(other));
    }

    // ---- terms

    public String terms(int ratio) throws IndexOutOfBoundsException {
        found.takeApart(ratioAt(ratio));
        return rowText(found);
    }

    public int term(int ratio, int k) throws IndexOutOfBoundsException, IllegalArgumentException {
        Fraction number = ratioAt(ratio);
        requireNotBelow0(k);
        found.takeApart(number);
        return k < found.count ? (int) found.at(k) : REFUSED;
    }

    public int convergent(int into, int ratio, int k)
            throws IndexOutOfBoundsException, IllegalArgumentException {
        Fraction target = ratioAt(into);
        Fraction number = ratioAt(ratio);
        requireNotBelow0(k);
        found.takeApart(number);
        if (k >= found.count) {
            return refuse();
        }
        found.keepFirst(k + 1);
        return found.foldInto(made) ? settle(target) : refuse();
    }

    public int say(int term) throws IllegalArgumentException, IllegalStateException {
        requireWithin(term, -SAID_LIMIT, SAID_LIMIT);
        if (said.count >= ROW_LIMIT) {
            throw new IllegalStateException("the ROW is full");
        }
        said.addLast(term);
        return said.count;
    }

    public int unsay(int many) throws IllegalArgumentException {
        requireWithin(many, 0, ROW_LIMIT);
        said.keepFirst(many < said.count ? said.count - many : 0);
        return said.count;
    }

    public String row() {
        return rowText(said);
    }

    public int fold(int into) throws IndexOutOfBoundsException {
        Fraction target = ratioAt(into);
        return said.foldInto(made) ? settle(target) : refuse();
    }

    // ---- neighbours

    public int lower(int into, int ratio, int n)
            throws IndexOutOfBoundsException, IllegalArgumentException {
        return takeNeighbour(into, ratio, n, 1);
    }

    public int upper(int into, int ratio, int n)
            throws IndexOutOfBoundsException, IllegalArgumentException {
        return takeNeighbour(into, ratio, n, -1);
    }

    public int best(int into, int ratio, int n)
            throws IndexOutOfBoundsException, IllegalArgumentException {
        Fraction target = ratioAt(into);
        Fraction number = ratioAt(ratio);
        requireWithin(n, 1, BOUND_LIMIT);
        below.becomeNeighbour(number, n, 1);
        above.becomeNeighbour(number, n, -1);
        made.assign(isLowerBetter(number) ? below : above);
        return settle(target);
    }

    // ---- the tree

    public int up(int ratio) throws IndexOutOfBoundsException {
        Fraction target = ratioAt(ratio);
        if (target.sign() <= 0 || target.isOne()) {
            return refuse();
        }
        return stepUp(target) ? settle(target) : refuse();
    }

    public int down(int ratio, boolean isRight) throws IndexOutOfBoundsException {
        Fraction target = ratioAt(ratio);
        if (target.sign() <= 0) {
            return refuse();
        }
        return stepDown(target, isRight) ? settle(target) : refuse();
    }

    public int depth(int ratio) throws IndexOutOfBoundsException {
        return (int) depthOf(ratioAt(ratio));
    }

    public String way(int ratio) throws IndexOutOfBoundsException {
        Fraction number = ratioAt(ratio);
        StringBuilder out = new StringBuilder();
        writeWay(out, number);
        return out.toString();
    }

    public int next(int ratio, int many)
            throws IndexOutOfBoundsException, IllegalArgumentException {
        Fraction target = ratioAt(ratio);
        requireWithin(many, 1, NEXT_LIMIT);
        if (target.sign() <= 0) {
            return refuse();
        }
        made.assign(target);
        for (int k = 0; k < many; k++) {
            made.becomeFollower(made);
            if (!made.isFitting()) {
                return refuse();
            }
        }
        return settle(target);
    }

    public int before(int ratio) throws IndexOutOfBoundsException {
        Fraction target = ratioAt(ratio);
        if (target.sign() <= 0 || target.isOne()) {
            return refuse();
        }
        made.becomeForerunner(target);
        return settle(target);
    }

    // ---- decimals

    public String cut(int ratio, int places, int mode)
            throws IndexOutOfBoundsException, IllegalArgumentException {
        Fraction number = ratioAt(ratio);
        requireWithin(places, 0, CUT_PLACES_LIMIT);
        requireWithin(mode, 0, MODE_LIMIT);
        StringBuilder out = new StringBuilder();
        writeDecimal(out, number.cutTo(places, mode), places);
        return out.toString();
    }

    public int simplest(int into, int ratio, int places, int mode)
            throws IndexOutOfBoundsException, IllegalArgumentException {
        Fraction target = ratioAt(into);
        Fraction number = ratioAt(ratio);
        requireWithin(places, 0, SIMPLEST_PLACES_LIMIT);
        requireWithin(mode, 0, MODE_LIMIT);
        made.becomeSimplest(number, places, mode);
        return settle(target);
    }

    public int tally(int ratio, int places, int mode)
            throws IndexOutOfBoundsException, IllegalArgumentException {
        Fraction number = ratioAt(ratio);
        requireWithin(places, 0, TALLY_PLACES_LIMIT);
        requireWithin(mode, 0, MODE_LIMIT);
        return tallied.takeIn(number, places, mode) ? tallied.came : refuse();
    }

    public int wipe() {
        int came = tallied.came;
        tallied.clear();
        return came;
    }

    public String exact() {
        return textOf(tallied.exactSum);
    }

    public String rounded() {
        StringBuilder out = new StringBuilder();
        writeRounded(out);
        return out.toString();
    }

    public String error() {
        return textOf(tallied.difference);
    }

    // ---- the whole

    public int knock() {
        knocks++;
        return knocks;
    }

    public int house(int what) throws IllegalArgumentException {
        requireWithin(what, 0, WHAT_HOUSE_LIMIT);
        return countOf(what);
    }

    public boolean isSound() {
        for (int k = 0; k < ratios.length; k++) {
            Fraction number = ratios[k];
            if (!isFoldSound(number) || !areNeighboursSound(number)
                    || !isCutSound(number, 0) || !isCutSound(number, SOUND_PLACES)
                    || !isTreeSound(number)) {
                return false;
            }
        }
        return areSoundInPairs() && tallied.isEven(made);
    }

    public long digest() {
        StringBuilder out = new StringBuilder();
        long sum = DIGEST_START;
        for (int what = 0; what <= WHAT_HOUSE_LIMIT; what++) {
            sum = mixed(sum, countOf(what));
        }
        for (int k = 0; k < ratios.length; k++) {
            sum = mixedWithRatio(sum, ratios[k], out);
        }
        sum = mixedWithPairs(sum);
        for (int k = 0; k < said.count; k++) {
            sum = mixed(sum, said.at(k));
        }
        sum = mixedWithTally(sum, out);
        return mixed(sum, isSound() ? 1 : 0);
    }

    // ---- what the calls share

    private Fraction ratioAt(int ratio) throws IndexOutOfBoundsException {
        if (ratio < 0 || ratio >= ratios.length) {
            throw new IndexOutOfBoundsException("there is no such RATIO");
        }
        return ratios[ratio];
    }

    private static void requireWithin(int value, int least, int most)
            throws IllegalArgumentException {
        if (value < least || value > most) {
            throw new IllegalArgumentException("an argument is outside its bounds");
        }
    }

    private static void requireNotBelow0(int value) throws IllegalArgumentException {
        if (value < 0) {
            throw new IllegalArgumentException("an argument is below 0");
        }
    }

    private int refuse() {
        refusals++;
        return REFUSED;
    }

    /** The end of every act at a RATIO: it becomes what was made, if that FITS. */
    private int settle(Fraction target) {
        if (!made.isFitting()) {
            return refuse();
        }
        if (made.isSameAs(target)) {
            return 0;
        }
        target.assign(made);
        return 1;
    }

    private static long partOf(Fraction number, int what) {
        switch (what) {
            case 0:
                return number.top;
            case 1:
                return number.bottom;
            case 2:
                return number.sign();
            default:
                return number.floorPart();
        }
    }

    private int countOf(int what) {
        switch (what) {
            case 0:
                return wholeCount();
            case 1:
                return refusals;
            case 2:
                return knocks;
            case 3:
                return said.count;
            default:
                return tallied.came;
        }
    }

    private int wholeCount() {
        int whole = 0;
        for (int k = 0; k < ratios.length; k++) {
            if (ratios[k].bottom == 1) {
                whole++;
            }
        }
        return whole;
    }

    /** lower() by side 1, upper() by side -1. */
    private int takeNeighbour(int into, int ratio, int n, int side)
            throws IndexOutOfBoundsException, IllegalArgumentException {
        Fraction target = ratioAt(into);
        Fraction number = ratioAt(ratio);
        requireWithin(n, 1, BOUND_LIMIT);
        made.becomeNeighbour(number, n, side);
        return settle(target);
    }

    /** Whether of the neighbours that were found the lower one is BEST for the number. */
    private boolean isLowerBetter(Fraction number) {
        long toBelow = (number.top * below.bottom - below.top * number.bottom) * above.bottom;
        long toAbove = (above.top * number.bottom - number.top * above.bottom) * below.bottom;
        if (toBelow != toAbove) {
            return toBelow < toAbove;
        }
        return below.bottom <= above.bottom;
    }

    // ---- steps in the tree

    /** Makes the one below which a number above 0, but not 1, stands. */
    private boolean stepUp(Fraction from) {
        found.takeApart(from);
        found.addToLast(-1);
        return found.foldInto(made);
    }

    /** Makes one of both that stand below a number above 0. */
    private boolean stepDown(Fraction from, boolean isRight) {
        found.takeApart(from);
        // A greater last TERM makes the number greater if an even number of TERMS stand ahead.
        boolean isGreaterRight = (found.count & 1) == 1;
        if (isRight == isGreaterRight) {
            found.addToLast(1);
        } else {
            found.addToLast(-1);
            found.addLast(2);
        }
        return found.foldInto(made);
    }

    private long depthOf(Fraction number) {
        if (number.sign() <= 0) {
            return REFUSED;
        }
        found.takeApart(number);
        // The TERMS but for 1 are the steps right, left, right, ..
        return found.total() - 1;
    }

    private void writeWay(StringBuilder out, Fraction number) {
        if (number.sign() <= 0) {
            out.append(REFUSED_TEXT);
            return;
        }
        found.takeApart(number);
        found.addToLast(-1);
        for (int k = 0; k < found.count; k++) {
            long steps = found.at(k);
            if (steps > 0) {
                if (out.length() > 0) {
                    out.append(' ');
                }
                char side = (k & 1) == 0 ? 'R' : 'L';
                out.append(side);
                out.append((int) steps);
            }
        }
    }

    // ---- texts

    private static String textOf(Fraction number) {
        StringBuilder out = new StringBuilder();
        writeFraction(out, number);
        return out.toString();
    }

    private static String rowText(Terms row) {
        StringBuilder out = new StringBuilder();
        for (int k = 0; k < row.count; k++) {
            if (k > 0) {
                out.append(' ');
            }
            out.append((int) row.at(k));
        }
        return out.toString();
    }

    private static void writeFraction(StringBuilder out, Fraction number) {
        out.append((int) number.top);
        if (number.bottom != 1) {
            out.append('/');
            out.append((int) number.bottom);
        }
    }

    private void writeRounded(StringBuilder out) {
        writeDecimal(out, tallied.roundedSum.cutTo(tallied.places, 0), tallied.places);
    }

    /** Writes a number of last places as a decimal with so many places. */
    private static void writeDecimal(StringBuilder out, long number, int places) {
        long size = number < 0 ? -number : number;
        if (number < 0) {
            out.append('-');
        }
        out.append((int) floorOf(size, powerOfTen(places)));
        if (places > 0) {
            out.append('.');
        }
        for (int place = places - 1; place >= 0; place--) {
            long digit = floorOf(size, powerOfTen(place)) % 10;
            out.append((char) ('0' + digit));
        }
    }

    // ---- soundness

    private boolean isFoldSound(Fraction number) {
        found.takeApart(number);
        return commonDivisor(number.top, number.bottom) == 1
                && found.foldInto(made) && made.isSameAs(number);
    }

    private boolean areNeighboursSound(Fraction number) {
        for (int bound = 1; bound <= SOUND_BOUND; bound++) {
            below.becomeNeighbour(number, bound, 1);
            above.becomeNeighbour(number, bound, -1);
            boolean isBetween = below.compareWith(number) <= 0 && above.compareWith(number) >= 0;
            boolean isReached = below.isSameAs(number) && above.isSameAs(number);
            boolean isTight = below.isNextTo(above) && below.bottom + above.bottom > bound;
            if (!isBetween || !isReached && !isTight) {
                return false;
            }
        }
        return true;
    }

    private static boolean isCutSound(Fraction number, int places) {
        long scaled = number.top * powerOfTen(places);
        long overLower = scaled - number.cutTo(places, 1) * number.bottom;
        long underUpper = number.cutTo(places, 2) * number.bottom - scaled;
        return overLower >= 0 && overLower < number.bottom
                && underUpper >= 0 && underUpper < number.bottom;
    }

    private boolean isTreeSound(Fraction number) {
        if (number.sign() <= 0) {
            return true;
        }
        for (int side = 0; side <= 1; side++) {
            if (!stepDown(number, side == 1)) {
                return false;
            }
            below.assign(made);
            if (!stepUp(below) || !made.isSameAs(number)) {
                return false;
            }
        }
        below.becomeFollower(number);
        made.becomeForerunner(below);
        return made.isSameAs(number);
    }

    private boolean areSoundInPairs() {
        for (int a = 0; a < ratios.length; a++) {
            for (int b = a + 1; b < ratios.length; b++) {
                below.becomeSum(ratios[a], ratios[b]);
                made.becomeDifference(below, ratios[b]);
                if (!made.isSameAs(ratios[a])) {
                    return false;
                }
            }
        }
        return true;
    }

    // ---- the checksum

    private static long mixed(long sum, long value) {
        return sum * DIGEST_FACTOR + value;
    }

    private long mixedWithRatio(long start, Fraction number, StringBuilder out) {
        long sum = start;
        for (int what = 0; what <= WHAT_PART_LIMIT; what++) {
            sum = mixed(sum, partOf(number, what));
        }
        found.takeApart(number);
        sum = mixed(sum, found.count);
        sum = mixed(sum, depthOf(number));
        out.setLength(0);
        writeWay(out, number);
        sum = mixed(sum, out.length());
        for (int mode = 0; mode <= MODE_LIMIT; mode++) {
            out.setLength(0);
            writeDecimal(out, number.cutTo(DIGEST_PLACES, mode), DIGEST_PLACES);
            sum = mixed(sum, out.length());
        }
        return sum;
    }

    private long mixedWithPairs(long start) {
        long sum = start;
        for (int a = 0; a < ratios.length; a++) {
            for (int b = a + 1; b < ratios.length; b++) {
                sum = mixed(sum, ratios[a].compareWith(ratios[b]));
                sum = mixed(sum, ratios[a].isNextTo(ratios[b]) ? 1 : 0);
            }
        }
        return sum;
    }

    private long mixedWithTally(long start, StringBuilder out) {
        out.setLength(0);
        writeFraction(out, tallied.exactSum);
        long sum = mixed(start, out.length());
        out.setLength(0);
        writeRounded(out);
        sum = mixed(sum, out.length());
        out.setLength(0);
        writeFraction(out, tallied.difference);
        return mixed(sum, out.length());
    }

    // ---- whole numbers

    /** The FLOOR of the number by the divisor; 0 for a divisor of 0, which no caller has. */
    private static long floorOf(long number, long divisor) {
        return divisor == 0 ? 0 : Math.floorDiv(number, divisor);
    }

    /** The greatest common divisor; 0 of two zeros. */
    private static long commonDivisor(long one, long other) {
        long greater = one < 0 ? -one : one;
        long lesser = other < 0 ? -other : other;
        for (int step = 0; step < DIVISION_STEPS && lesser != 0; step++) {
            long left = greater % lesser;
            greater = lesser;
            lesser = left;
        }
        return greater;
    }

    private static long powerOfTen(int places) {
        return places >= 0 && places < POWERS_OF_TEN.length ? POWERS_OF_TEN[places] : 1;
    }

    /** The product of so many times the base; it stops growing once it can't FIT any more. */
    private static long powerToLimit(long base, int many) {
        long power = 1;
        for (int k = 0; k < many && power <= FIT_LIMIT; k++) {
            power *= base;
        }
        return power;
    }

    /** Top by bottom, CUT, as a number of last places. */
    private static long cutNumber(long top, long bottom, int places, int mode) {
        long scaled = top * powerOfTen(places);
        long lesser = floorOf(scaled, bottom);
        long left = scaled - lesser * bottom;
        return left > 0 && isCutUpward(lesser, left, bottom, mode) ? lesser + 1 : lesser;
    }

    /** Whether what lies between lesser and lesser + 1 becomes lesser + 1. */
    private static boolean isCutUpward(long lesser, long left, long bottom, int mode) {
        switch (mode) {
            case 0:
                return lesser < 0;
            case 1:
                return false;
            case 2:
                return true;
            case 3:
                return 2 * left > bottom || 2 * left == bottom && lesser >= 0;
            default:
                return 2 * left > bottom || 2 * left == bottom && (lesser & 1) == 1;
        }
    }

    /** A number, told as a top and a bottom above 0 without a common divisor above 1. */
    private static final class Fraction {
        private long top;
        private long bottom;

        Fraction() {
            top = 0;
            bottom = 1;
        }

        void assign(Fraction other) {
            top = other.top;
            bottom = other.bottom;
        }

        /** Becomes newTop by newBottom; stays as it is for a bottom of 0, which no caller has. */
        void become(long newTop, long newBottom) {
            if (newBottom == 0) {
                return;
            }
            long common = commonDivisor(newTop, newBottom);
            long divisor = newBottom < 0 ? -common : common;
            top = floorOf(newTop, divisor);
            bottom = floorOf(newBottom, divisor);
        }

        boolean isFitting() {
            return top >= -FIT_LIMIT && top <= FIT_LIMIT && bottom <= FIT_LIMIT;
        }

        boolean isSameAs(Fraction other) {
            return top == other.top && bottom == other.bottom;
        }

        boolean isOne() {
            return top == 1 && bottom == 1;
        }

        int sign() {
            return Long.compare(top, 0L);
        }

        long floorPart() {
            return floorOf(top, bottom);
        }

        long cutTo(int places, int mode) {
            return cutNumber(top, bottom, places, mode);
        }

        int compareWith(Fraction other) {
            return Long.compare(top * other.bottom, other.top * bottom);
        }

        boolean isNextTo(Fraction other) {
            long apart = top * other.bottom - other.top * bottom;
            return apart == 1 || apart == -1;
        }

        void becomeSum(Fraction one, Fraction other) {
            gather(one, other.top, other.bottom);
        }

        void becomeDifference(Fraction one, Fraction other) {
            gather(one, -other.top, other.bottom);
        }

        /**
         * Adds over the least common bottom, not over the product of both: so a sum of two RATIOS,
         * which need not FIT, less one of them stays inside a long.
         */
        void gather(Fraction one, long otherTop, long otherBottom) {
            long common = commonDivisor(one.bottom, otherBottom);
            long oneShare = floorOf(one.bottom, common);
            long otherShare = floorOf(otherBottom, common);
            become(one.top * otherShare + otherTop * oneShare, oneShare * otherBottom);
        }

        void becomeProduct(Fraction one, Fraction other) {
            become(one.top * other.top, one.bottom * other.bottom);
        }

        void becomeQuotient(Fraction one, Fraction other) {
            become(one.top * other.bottom, one.bottom * other.top);
        }

        void becomeMediant(Fraction one, Fraction other) {
            become(one.top + other.top, one.bottom + other.bottom);
        }

        void becomePower(Fraction base, int exponent) {
            int many = exponent < 0 ? -exponent : exponent;
            long topPower = powerToLimit(base.top < 0 ? -base.top : base.top, many);
            long bottomPower = powerToLimit(base.bottom, many);
            if (base.top < 0 && (many & 1) == 1) {
                topPower = -topPower;
            }
            if (exponent < 0) {
                become(bottomPower, topPower);
            } else {
                become(topPower, bottomPower);
            }
        }

        /** Becomes the LOWER NEIGHBOUR of a number by side 1, the UPPER one by side -1. */
        void becomeNeighbour(Fraction number, int bound, int side) {
            // The UPPER one is the LOWER one as seen in a mirror.
            long mirrored = side * number.top;
            long bestTop = floorOf(mirrored, number.bottom);
            long bestBottom = 1;
            for (long tried = 2; tried <= bound; tried++) {
                long triedTop = floorOf(mirrored * tried, number.bottom);
                if (triedTop * bestBottom > bestTop * tried) {
                    bestTop = triedTop;
                    bestBottom = tried;
                }
            }
            become(side * bestTop, bestBottom);
        }

        /** Becomes the NEXT ONE of a number above 0. */
        void becomeFollower(Fraction number) {
            long whole = number.floorPart();
            become(number.bottom, (2 * whole + 1) * number.bottom - number.top);
        }

        /** Becomes the one whose NEXT ONE is that number above 0. */
        void becomeForerunner(Fraction number) {
            // 1 by the NEXT ONE is above the FLOOR of what is sought, and at most 1 above it.
            long whole = floorOf(number.bottom - 1, number.top);
            become((2 * whole + 1) * number.top - number.bottom, number.top);
        }

        /** Becomes the SIMPLEST of a number. */
        void becomeSimplest(Fraction number, int places, int mode) {
            long wanted = number.cutTo(places, mode);
            long greatest = powerOfTen(places);
            for (long tried = 1; tried <= greatest; tried++) {
                // All that is CUT alike lies together, so the two round the number tell of all.
                long under = floorOf(number.top * tried, number.bottom);
                for (long triedTop = under; triedTop <= under + 1; triedTop++) {
                    if (cutNumber(triedTop, tried, places, mode) == wanted) {
                        become(triedTop, tried);
                        return;
                    }
                }
            }
        }
    }

    /** A row of TERMS. */
    private static final class Terms {
        private final long[] values;
        private int count;

        Terms() {
            values = new long[TERMS_ROOM];
            count = 0;
        }

        long at(int k) {
            return k >= 0 && k < count && k < values.length ? values[k] : 0;
        }

        void addLast(long term) {
            if (count >= 0 && count < values.length) {
                values[count] = term;
                count++;
            }
        }

        void addToLast(long more) {
            int last = count - 1;
            if (last >= 0 && last < values.length) {
                values[last] += more;
            }
        }

        void keepFirst(int many) {
            if (many >= 0 && many < count) {
                count = many;
            }
        }

        long total() {
            long sum = 0;
            for (int k = 0; k < count; k++) {
                sum += at(k);
            }
            return sum;
        }

        /** Becomes the TERMS of a number. */
        void takeApart(Fraction number) {
            count = 0;
            long top = number.top;
            long bottom = number.bottom;
            for (int step = 0; step < values.length && bottom != 0; step++) {
                long whole = floorOf(top, bottom);
                long left = top - whole * bottom;
                addLast(whole);
                top = bottom;
                bottom = left;
            }
        }

        /**
         * FOLDS the TERMS. Tells false, and makes nothing, if there are none, if one behind the
         * first one is below 1, or if the bottom grows beyond all that can FIT.
         */
        boolean foldInto(Fraction folded) {
            if (count < 1) {
                return false;
            }
            long top = at(count - 1);
            long bottom = 1;
            for (int k = count - 2; k >= 0; k--) {
                if (at(k + 1) < 1 || top > FOLD_LIMIT) {
                    return false;
                }
                long foldedTop = at(k) * top + bottom;
                bottom = top;
                top = foldedTop;
            }
            folded.become(top, bottom);
            return true;
        }
    }

    /** The TALLY. */
    private static final class Tally {
        private final Fraction exactSum;
        private final Fraction roundedSum;
        private final Fraction difference;
        private final Fraction newExact;
        private final Fraction newRounded;
        private final Fraction newDifference;
        private int came;
        private int places;

        Tally() {
            exactSum = new Fraction();
            roundedSum = new Fraction();
            difference = new Fraction();
            newExact = new Fraction();
            newRounded = new Fraction();
            newDifference = new Fraction();
            came = 0;
            places = 0;
        }

        void clear() {
            exactSum.become(0, 1);
            roundedSum.become(0, 1);
            difference.become(0, 1);
            came = 0;
            places = 0;
        }

        /** Takes a number in; tells false, and changes nothing, if a sum would not FIT. */
        boolean takeIn(Fraction number, int newPlaces, int mode) {
            newExact.becomeSum(exactSum, number);
            newRounded.gather(roundedSum, number.cutTo(newPlaces, mode), powerOfTen(newPlaces));
            if (!newExact.isFitting() || !newRounded.isFitting()) {
                return false;
            }
            newDifference.becomeDifference(newExact, newRounded);
            if (!newDifference.isFitting()) {
                return false;
            }
            exactSum.assign(newExact);
            roundedSum.assign(newRounded);
            difference.assign(newDifference);
            places = Math.max(places, newPlaces);
            came++;
            return true;
        }

        /** Whether ROUNDED and ERROR together are EXACT; reckons with the scratch. */
        boolean isEven(Fraction scratch) {
            scratch.becomeSum(roundedSum, difference);
            return scratch.isSameAs(exactSum);
        }
    }
}
