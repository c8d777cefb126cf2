/**
 * Eight registers of 64 bits and four tallies of at most 36 digits, worked on exactly:
 * what does not fit is answered with a fault and changes nothing.
 *
 * Every operation works its outcome out in 128 bits first and is then kept or faulted in one
 * place. 128 bits are always enough: the greatest outcome, a product of two longs added to a
 * tally, is at most 2^126 + 10^36, which is below 2^127.
 */
public final class ExactDesk {
    private static final int REGISTERS = 8;
    private static final int TALLIES = 4;

    private static final int REFUSED = -1;
    private static final int DONE = 0;
    private static final int ABOVE = 1;
    private static final int BELOW = 2;
    private static final int NOUGHT = 3;

    private static final int NO_ORDER = -2;

    private static final int DOWN = 0;
    private static final int UP = 1;
    private static final int TOWARDS_ZERO = 2;
    private static final int NEAREST = 3;

    /** A tally is read as two halves of this many digits, because each half fits in a long. */
    private static final int HALF_DIGITS = 18;
    private static final int TALLY_DIGITS = 2 * HALF_DIGITS;
    private static final long HALF_UNIT = 1000000000000000000L;
    private static final long GREATEST_SPLIT = 1000000000000000000L;

    private final long[] registers;
    private final Wide[] tallies;

    /** The least number that is too great for a tally, and the greatest that is too small. */
    private final Wide tallyCeiling;
    private final Wide tallyFloor;

    /** Where each call works; made once, so that no call makes an object. */
    private final Wide outcome;

    public ExactDesk() {
        registers = new long[REGISTERS];
        tallies = new Wide[TALLIES];
        for (int t = 0; t < TALLIES; t++) {
            tallies[t] = new Wide();
        }
        tallyCeiling = new Wide();
        tallyCeiling.becomeProduct(HALF_UNIT, HALF_UNIT);
        tallyFloor = new Wide();
        tallyFloor.becomeProduct(-HALF_UNIT, HALF_UNIT);
        outcome = new Wide();
    }

    public boolean set(int r, long v) {
        if (!isRegister(r)) {
            return false;
        }
        registers[r] = v;
        return true;
    }

    public long get(int r) {
        return isRegister(r) ? registers[r] : 0L;
    }

    public int add(int r, long v) {
        if (!isRegister(r)) {
            return REFUSED;
        }
        outcome.become(registers[r]);
        outcome.increase(v);
        return keepInRegister(r);
    }

    public int subtract(int r, long v) {
        if (!isRegister(r)) {
            return REFUSED;
        }
        // Negated as a wide number, because the least long has no opposite among the longs.
        outcome.become(v);
        outcome.negate();
        outcome.increase(registers[r]);
        return keepInRegister(r);
    }

    public int times(int r, long v) {
        if (!isRegister(r)) {
            return REFUSED;
        }
        outcome.becomeProduct(registers[r], v);
        return keepInRegister(r);
    }

    public int share(int r, long b, long c, int way) {
        if (!isRegister(r) || !isWay(way)) {
            return REFUSED;
        }
        if (c == 0L) {
            return NOUGHT;
        }
        outcome.becomeProduct(registers[r], b);
        divideOutcome(c, way);
        return keepInRegister(r);
    }

    public int enter(int t, int r, long v) {
        if (!isTally(t) || !isRegister(r)) {
            return REFUSED;
        }
        outcome.becomeProduct(registers[r], v);
        outcome.increase(tallies[t]);
        return keepInTally(t);
    }

    public int merge(int t, int u) {
        if (!isTally(t) || !isTally(u)) {
            return REFUSED;
        }
        outcome.become(tallies[t]);
        outcome.increase(tallies[u]);
        return keepInTally(t);
    }

    public int split(int t, long d, int r) {
        if (!isTally(t) || !isRegister(r) || d < 0L || d > GREATEST_SPLIT) {
            return REFUSED;
        }
        if (d == 0L) {
            return NOUGHT;
        }
        // Worked out in place: neither the quotient nor the rest can be too large.
        Wide tally = tallies[t];
        boolean negative = tally.isNegative();
        tally.dropSign();
        long rest = tally.divideBy(d);
        if (negative) {
            tally.negate();
            rest = -rest;
        }
        registers[r] = rest;
        return DONE;
    }

    public int take(int t, int r) {
        if (!isTally(t) || !isRegister(r)) {
            return REFUSED;
        }
        outcome.become(tallies[t]);
        return keepInRegister(r);
    }

    public boolean clear(int t) {
        if (!isTally(t)) {
            return false;
        }
        tallies[t].become(0L);
        return true;
    }

    public int compare(int t, int u) {
        if (!isTally(t) || !isTally(u)) {
            return NO_ORDER;
        }
        return tallies[t].orderTo(tallies[u]);
    }

    public int digits(int t) {
        if (!isTally(t)) {
            return 0;
        }
        long upper = upperHalf(tallies[t]);
        int count = upper > 0L
                ? HALF_DIGITS + decimalLength(upper)
                : decimalLength(lowerHalf(tallies[t]));
        return tallies[t].isNegative() ? -count : count;
    }

    public int digit(int t, int k) {
        if (!isTally(t) || k < 0 || k >= TALLY_DIGITS) {
            return REFUSED;
        }
        return k < HALF_DIGITS
                ? decimalDigit(lowerHalf(tallies[t]), k)
                : decimalDigit(upperHalf(tallies[t]), k - HALF_DIGITS);
    }

    private static boolean isRegister(int r) {
        return r >= 0 && r < REGISTERS;
    }

    private static boolean isTally(int t) {
        return t >= 0 && t < TALLIES;
    }

    private static boolean isWay(int way) {
        return way >= DOWN && way <= NEAREST;
    }

    private int keepInRegister(int r) {
        if (!outcome.fitsLong()) {
            return outcome.isNegative() ? BELOW : ABOVE;
        }
        registers[r] = outcome.lowWord();
        return DONE;
    }

    private int keepInTally(int t) {
        if (outcome.orderTo(tallyCeiling) >= 0) {
            return ABOVE;
        }
        if (outcome.orderTo(tallyFloor) <= 0) {
            return BELOW;
        }
        tallies[t].become(outcome);
        return DONE;
    }

    /** The divisor is not 0: the caller has looked. */
    private void divideOutcome(long divisor, int way) {
        boolean negative = outcome.isNegative() != (divisor < 0L);
        // The least long stays as it is here, and its bits, read without a sign, are 2^63.
        long size = divisor < 0L ? -divisor : divisor;
        outcome.dropSign();
        long rest = outcome.divideBy(size);
        if (roundsAwayFromZero(rest, size, negative, way)) {
            outcome.increase(1L);
        }
        if (negative) {
            outcome.negate();
        }
    }

    private static boolean roundsAwayFromZero(long rest, long size, boolean negative, int way) {
        switch (way) {
            case DOWN:
                return negative && rest != 0L;
            case UP:
                return !negative && rest != 0L;
            case TOWARDS_ZERO:
                return false;
            default:
                // 2 * rest >= size, so put that no step leaves the longs, even with a size of 2^63.
                return rest > size - 1L - rest;
        }
    }

    /** The 18 lower digits, without a sign. */
    private long lowerHalf(Wide tally) {
        outcome.become(tally);
        outcome.dropSign();
        return outcome.divideBy(HALF_UNIT);
    }

    /** The 18 upper digits, without a sign. */
    private long upperHalf(Wide tally) {
        outcome.become(tally);
        outcome.dropSign();
        outcome.divideBy(HALF_UNIT);
        return outcome.lowWord();
    }

    private static int decimalLength(long half) {
        int length = 1;
        long unit = 10L;
        while (length < HALF_DIGITS && half >= unit) {
            unit *= 10L;
            length++;
        }
        return length;
    }

    private static int decimalDigit(long half, int place) {
        long rest = half;
        for (int i = 0; i < place; i++) {
            rest /= 10L;
        }
        return (int) (rest % 10L);
    }

    /** A whole number of 128 bits in two's complement, which its owner changes in place. */
    private static final class Wide {
        private static final int BITS = 128;
        private static final int TOP_BIT = 63;
        private static final int HALF_WORD = 32;
        private static final long HALF_MASK = 0xFFFFFFFFL;
        private static final long SIGN_BIT = 1L << TOP_BIT;

        private long high;
        private long low;

        void become(long v) {
            high = v >> TOP_BIT;
            low = v;
        }

        void become(Wide other) {
            high = other.high;
            low = other.low;
        }

        void becomeProduct(long a, long b) {
            long aHigh = a >> HALF_WORD;
            long aLow = a & HALF_MASK;
            long bHigh = b >> HALF_WORD;
            long bLow = b & HALF_MASK;
            // Each cross product is added to less than 2^32 at a time, so that no sum wraps.
            long middle = aHigh * bLow + ((aLow * bLow) >>> HALF_WORD);
            long cross = aLow * bHigh + (middle & HALF_MASK);
            high = aHigh * bHigh + (middle >> HALF_WORD) + (cross >> HALF_WORD);
            low = a * b;
        }

        void increase(long v) {
            addWords(v >> TOP_BIT, v);
        }

        void increase(Wide other) {
            addWords(other.high, other.low);
        }

        private void addWords(long otherHigh, long otherLow) {
            long sum = low + otherLow;
            long carry = unsignedLess(sum, otherLow) ? 1L : 0L;
            high = high + otherHigh + carry;
            low = sum;
        }

        void negate() {
            low = -low;
            high = low == 0L ? -high : ~high;
        }

        void dropSign() {
            if (isNegative()) {
                negate();
            }
        }

        /**
         * For a number that is not below 0 and a divisor that, read without a sign, is 1 .. 2^63:
         * becomes the quotient and answers what is left over.
         */
        long divideBy(long divisor) {
            long rest = 0L;
            // The bits of the quotient come in below as those of the number go out above.
            for (int step = 0; step < BITS; step++) {
                // Less than 2^63 before it is doubled, so that no bit of it is lost.
                rest = (rest << 1) | (high >>> TOP_BIT);
                high = (high << 1) | (low >>> TOP_BIT);
                low = low << 1;
                if (!unsignedLess(rest, divisor)) {
                    rest -= divisor;
                    low |= 1L;
                }
            }
            return rest;
        }

        int orderTo(Wide other) {
            if (high != other.high) {
                return high < other.high ? -1 : 1;
            }
            if (low != other.low) {
                return unsignedLess(low, other.low) ? -1 : 1;
            }
            return 0;
        }

        boolean isNegative() {
            return high < 0L;
        }

        boolean fitsLong() {
            return high == low >> TOP_BIT;
        }

        long lowWord() {
            return low;
        }

        private static boolean unsignedLess(long a, long b) {
            return (a ^ SIGN_BIT) < (b ^ SIGN_BIT);
        }
    }
}
