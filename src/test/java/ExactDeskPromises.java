import java.math.BigInteger;

/** Each promise of the document with ordinary inputs, its edges, and wrong inputs. */
public final class ExactDeskPromises {
    private static final long MAX = Long.MAX_VALUE;
    private static final long MIN = Long.MIN_VALUE;
    private static final long E18 = 1000000000000000000L;
    private static final int[] NO_REGISTERS = {-1, 8, 9, Integer.MAX_VALUE, Integer.MIN_VALUE};
    private static final int[] NO_TALLIES = {-1, 4, 5, 7, Integer.MAX_VALUE, Integer.MIN_VALUE};
    private static final int[] NO_WAYS = {-1, 4, 9, Integer.MAX_VALUE, Integer.MIN_VALUE};
    private static final BigInteger LIMIT = BigInteger.TEN.pow(36);

    private static int promise = 0;
    private static int looked = 0;
    private static int wrong = 0;

    public static void main(String[] args) {
        newObject();
        set();
        get();
        add();
        subtract();
        times();
        shareRounds();
        shareEdges();
        shareRefuses();
        enter();
        enterEdges();
        merge();
        split();
        splitEdges();
        take();
        clear();
        compare();
        digits();
        digit();
        objectsAreApart();
        System.out.println(looked + " answers looked at, " + wrong + " not as due");
        if (wrong != 0) {
            System.exit(1);
        }
    }

    // --- what the tests are written with ---

    private static void due(String what, long got, long want) {
        looked++;
        if (got != want) {
            wrong++;
            System.out.println("promise " + promise + ": " + what + " answered " + got + ", due is " + want);
        }
    }

    private static void due(String what, boolean got, boolean want) {
        due(what, got ? 1L : 0L, want ? 1L : 0L);
    }

    private static void dueTally(String what, ExactDesk x, int t, BigInteger want) {
        looked++;
        BigInteger got = tally(x, t);
        if (!got.equals(want)) {
            wrong++;
            System.out.println("promise " + promise + ": " + what + " left tally " + got + ", due is " + want);
        }
    }

    private static BigInteger tally(ExactDesk x, int t) {
        BigInteger sum = BigInteger.ZERO;
        for (int k = 35; k >= 0; k--) {
            sum = sum.multiply(BigInteger.TEN).add(BigInteger.valueOf(x.digit(t, k)));
        }
        return x.digits(t) < 0 ? sum.negate() : sum;
    }

    private static BigInteger big(String text) {
        return new BigInteger(text);
    }

    private static ExactDesk withRegister(int r, long v) {
        ExactDesk x = new ExactDesk();
        x.set(r, v);
        return x;
    }

    /** Builds the tally from two halves of 18 digits; uses register 7 and leaves it 0. */
    private static void putTally(ExactDesk x, int t, BigInteger v) {
        BigInteger[] halves = v.divideAndRemainder(BigInteger.valueOf(E18));
        x.clear(t);
        x.set(7, halves[0].longValueExact());
        x.enter(t, 7, E18);
        x.set(7, halves[1].longValueExact());
        x.enter(t, 7, 1L);
        x.set(7, 0L);
    }

    private static ExactDesk withTally(int t, BigInteger v) {
        ExactDesk x = new ExactDesk();
        putTally(x, t, v);
        return x;
    }

    /** A desk whose every register and tally differs, so that a stray change shows. */
    private static ExactDesk filled() {
        ExactDesk x = new ExactDesk();
        for (int t = 0; t < 4; t++) {
            putTally(x, t, filledTally(t));
        }
        for (int r = 0; r < 8; r++) {
            x.set(r, filledRegister(r));
        }
        return x;
    }

    private static long filledRegister(int r) {
        return 100L + r;
    }

    private static BigInteger filledTally(int t) {
        return BigInteger.TEN.pow(20 + t).add(BigInteger.valueOf(t)).multiply(BigInteger.valueOf(t % 2 == 0 ? 1 : -1));
    }

    /** Every register and tally is as filled() made it, but for the ones named (-1 for none). */
    private static void dueUnchanged(String what, ExactDesk x, int butRegister, int butTally) {
        for (int r = 0; r < 8; r++) {
            if (r != butRegister) {
                due(what + ", then get(" + r + ")", x.get(r), filledRegister(r));
            }
        }
        for (int t = 0; t < 4; t++) {
            if (t != butTally) {
                dueTally(what, x, t, filledTally(t));
            }
        }
    }

    // --- the promises ---

    private static void newObject() {
        promise = 1;
        ExactDesk x = new ExactDesk();
        for (int r = 0; r < 8; r++) {
            due("new, get(" + r + ")", x.get(r), 0L);
        }
        for (int t = 0; t < 4; t++) {
            due("new, digits(" + t + ")", x.digits(t), 1);
            dueTally("new", x, t, BigInteger.ZERO);
        }
    }

    private static void set() {
        promise = 2;
        for (int r = 0; r < 8; r++) {
            ExactDesk x = filled();
            due("set", x.set(r, -5L), true);
            due("set, get", x.get(r), -5L);
            dueUnchanged("set(" + r + ")", x, r, -1);
            due("set MIN", x.set(r, MIN), true);
            due("set MIN, get", x.get(r), MIN);
            due("set MAX", x.set(r, MAX), true);
            due("set MAX, get", x.get(r), MAX);
        }
        for (int r : NO_REGISTERS) {
            ExactDesk x = filled();
            due("set(" + r + ")", x.set(r, 1L), false);
            dueUnchanged("set(" + r + ")", x, -1, -1);
        }
    }

    private static void get() {
        promise = 3;
        ExactDesk x = filled();
        for (int r = 0; r < 8; r++) {
            due("get(" + r + ")", x.get(r), filledRegister(r));
        }
        for (int r : NO_REGISTERS) {
            due("get(" + r + ")", x.get(r), 0L);
        }
        dueUnchanged("get", x, -1, -1);
    }

    private static void dueAdd(long a, long v, int fault, long after) {
        ExactDesk x = withRegister(3, a);
        due("add " + a + " + " + v, x.add(3, v), fault);
        due("add " + a + " + " + v + ", get", x.get(3), after);
    }

    private static void add() {
        promise = 4;
        dueAdd(2L, 3L, 0, 5L);
        dueAdd(2L, -3L, 0, -1L);
        dueAdd(-1L, 1L, 0, 0L);
        dueAdd(MAX, 0L, 0, MAX);
        dueAdd(MAX - 1L, 1L, 0, MAX);
        dueAdd(MAX, 1L, 1, MAX);
        dueAdd(1L, MAX, 1, 1L);
        dueAdd(MAX, MAX, 1, MAX);
        dueAdd(MIN, 0L, 0, MIN);
        dueAdd(MIN + 1L, -1L, 0, MIN);
        dueAdd(MIN, -1L, 2, MIN);
        dueAdd(-1L, MIN, 2, -1L);
        dueAdd(MIN, MIN, 2, MIN);
        dueAdd(MIN, MAX, 0, -1L);
        dueAdd(MAX, MIN, 0, -1L);
        ExactDesk y = filled();
        due("add", y.add(6, 4L), 0);
        due("add, get", y.get(6), filledRegister(6) + 4L);
        dueUnchanged("add", y, 6, -1);
        for (int r : NO_REGISTERS) {
            ExactDesk x = filled();
            due("add(" + r + ")", x.add(r, 1L), -1);
            dueUnchanged("add(" + r + ")", x, -1, -1);
        }
    }

    private static void dueSubtract(long a, long v, int fault, long after) {
        ExactDesk x = withRegister(3, a);
        due("subtract " + a + " - " + v, x.subtract(3, v), fault);
        due("subtract " + a + " - " + v + ", get", x.get(3), after);
    }

    private static void subtract() {
        promise = 5;
        dueSubtract(7L, 3L, 0, 4L);
        dueSubtract(3L, 7L, 0, -4L);
        dueSubtract(3L, -7L, 0, 10L);
        dueSubtract(MAX, -1L, 1, MAX);
        dueSubtract(0L, MIN, 1, 0L);
        dueSubtract(-1L, MIN, 0, MAX);
        dueSubtract(MIN, MIN, 0, 0L);
        dueSubtract(MAX, MIN, 1, MAX);
        dueSubtract(MIN, 1L, 2, MIN);
        dueSubtract(MIN, MAX, 2, MIN);
        dueSubtract(-1L, MAX, 0, MIN);
        dueSubtract(-2L, MAX, 2, -2L);
        dueSubtract(MAX, MAX, 0, 0L);
        ExactDesk y = filled();
        due("subtract", y.subtract(0, 4L), 0);
        due("subtract, get", y.get(0), filledRegister(0) - 4L);
        dueUnchanged("subtract", y, 0, -1);
        for (int r : NO_REGISTERS) {
            ExactDesk x = filled();
            due("subtract(" + r + ")", x.subtract(r, 1L), -1);
            dueUnchanged("subtract(" + r + ")", x, -1, -1);
        }
    }

    private static void dueTimes(long a, long v, int fault, long after) {
        ExactDesk x = withRegister(3, a);
        due("times " + a + " * " + v, x.times(3, v), fault);
        due("times " + a + " * " + v + ", get", x.get(3), after);
    }

    private static void times() {
        promise = 6;
        dueTimes(6L, 7L, 0, 42L);
        dueTimes(-6L, 7L, 0, -42L);
        dueTimes(-6L, -7L, 0, 42L);
        dueTimes(0L, MIN, 0, 0L);
        dueTimes(MIN, 0L, 0, 0L);
        dueTimes(MIN, 1L, 0, MIN);
        dueTimes(MIN, -1L, 1, MIN);
        dueTimes(-1L, MIN, 1, -1L);
        dueTimes(MAX, -1L, 0, -MAX);
        dueTimes(MAX, 2L, 1, MAX);
        dueTimes(MAX, -2L, 2, MAX);
        dueTimes(MIN, 2L, 2, MIN);
        dueTimes(MIN, MIN, 1, MIN);
        dueTimes(MAX, MAX, 1, MAX);
        dueTimes(MIN, MAX, 2, MIN);
        dueTimes(1L << 32, 1L << 31, 1, 1L << 32);
        dueTimes(1L << 32, -(1L << 31), 0, MIN);
        dueTimes(1L << 32, 1L << 32, 1, 1L << 32);
        dueTimes(3037000499L, 3037000499L, 0, 9223372030926249001L);
        dueTimes(3037000500L, 3037000500L, 1, 3037000500L);
        ExactDesk y = filled();
        due("times", y.times(7, 4L), 0);
        due("times, get", y.get(7), filledRegister(7) * 4L);
        dueUnchanged("times", y, 7, -1);
        for (int r : NO_REGISTERS) {
            ExactDesk x = filled();
            due("times(" + r + ")", x.times(r, 2L), -1);
            dueUnchanged("times(" + r + ")", x, -1, -1);
        }
    }

    private static void dueShare(long a, long b, long c, int way, int fault, long after) {
        ExactDesk x = withRegister(3, a);
        String call = "share " + a + " * " + b + " / " + c + " in way " + way;
        due(call, x.share(3, b, c, way), fault);
        due(call + ", get", x.get(3), after);
    }

    /** The four outcomes are those of the ways 0 .. 3. */
    private static void dueWays(long a, long b, long c, long down, long up, long zero, long near) {
        dueShare(a, b, c, 0, 0, down);
        dueShare(a, b, c, 1, 0, up);
        dueShare(a, b, c, 2, 0, zero);
        dueShare(a, b, c, 3, 0, near);
    }

    private static void shareRounds() {
        promise = 7;
        dueWays(6L, 5L, 10L, 3L, 3L, 3L, 3L);
        dueWays(-6L, 5L, 10L, -3L, -3L, -3L, -3L);
        dueWays(7L, 1L, 2L, 3L, 4L, 3L, 4L);
        dueWays(-7L, 1L, 2L, -4L, -3L, -3L, -4L);
        dueWays(7L, -1L, 2L, -4L, -3L, -3L, -4L);
        dueWays(7L, 1L, -2L, -4L, -3L, -3L, -4L);
        dueWays(-7L, 1L, -2L, 3L, 4L, 3L, 4L);
        dueWays(7L, 1L, 3L, 2L, 3L, 2L, 2L);
        dueWays(8L, 1L, 3L, 2L, 3L, 2L, 3L);
        dueWays(-7L, 1L, 3L, -3L, -2L, -2L, -2L);
        dueWays(-8L, 1L, 3L, -3L, -2L, -2L, -3L);
        dueWays(1L, 1L, 2L, 0L, 1L, 0L, 1L);
        dueWays(-1L, 1L, 2L, -1L, 0L, 0L, -1L);
        dueWays(1L, 1L, 3L, 0L, 1L, 0L, 0L);
        dueWays(-1L, 1L, 3L, -1L, 0L, 0L, 0L);
        dueWays(0L, 5L, 3L, 0L, 0L, 0L, 0L);
        dueWays(0L, 5L, -3L, 0L, 0L, 0L, 0L);
        dueWays(5L, 0L, -3L, 0L, 0L, 0L, 0L);
    }

    private static void shareEdges() {
        promise = 7;
        // Products of up to 126 bits whose quotient is a long again.
        dueWays(MAX, MAX, MAX, MAX, MAX, MAX, MAX);
        dueWays(MIN, MIN, MIN, MIN, MIN, MIN, MIN);
        dueWays(MIN, MAX, MIN, MAX, MAX, MAX, MAX);
        dueWays(MIN, MAX, MAX, MIN, MIN, MIN, MIN);
        dueWays(MAX, MAX, MIN, -MAX + 0L, -MAX + 1L, -MAX + 1L, -MAX + 1L);
        dueWays(MAX, E18, E18 + 1L, 9223372036854775797L, 9223372036854775798L,
                9223372036854775797L, 9223372036854775798L);
        // The divisor 2^63: the half is 2^62, and the rests beside it.
        dueWays(1L << 62, 1L, MIN, -1L, 0L, 0L, -1L);
        dueWays((1L << 62) - 1L, 1L, MIN, -1L, 0L, 0L, 0L);
        dueWays(-(1L << 62), 1L, MIN, 0L, 1L, 0L, 1L);
        dueWays(MAX, 1L, MIN, -1L, 0L, 0L, -1L);
        dueWays(1L, 1L, MIN, -1L, 0L, 0L, 0L);
        dueWays(MIN, 1L, MIN, 1L, 1L, 1L, 1L);
        // An odd divisor has no half: just below and just above it.
        dueWays(MAX / 2L, 1L, MAX, 0L, 1L, 0L, 0L);
        dueWays(MAX / 2L + 1L, 1L, MAX, 0L, 1L, 0L, 1L);
        // 2^63 - 1/2 and its opposite: only the rounding decides whether it fits. 3 * 5 * 17 divides 2^64 - 1.
        long third = 6148914691236517205L;
        dueShare(third, 3L, 2L, 0, 0, MAX);
        dueShare(third, 3L, 2L, 1, 1, third);
        dueShare(third, 3L, 2L, 2, 0, MAX);
        dueShare(third, 3L, 2L, 3, 1, third);
        dueWays(third, -3L, 2L, MIN, -MAX, -MAX, MIN);
        // -(2^63 + 1/2) = -(2^64 + 1) / 2, and 274177 divides 2^64 + 1.
        long factor = 67280421310721L;
        dueShare(factor, -274177L, 2L, 0, 2, factor);
        dueShare(factor, -274177L, 2L, 1, 0, MIN);
        dueShare(factor, -274177L, 2L, 2, 0, MIN);
        dueShare(factor, -274177L, 2L, 3, 2, factor);
        dueShare(factor, 274177L, 2L, 0, 1, factor);
        for (int way = 0; way < 4; way++) {
            dueShare(MIN, 1L, -1L, way, 1, MIN);
            dueShare(MIN, -1L, 1L, way, 1, MIN);
            dueShare(MIN, -1L, -1L, way, 0, MIN);
            dueShare(MAX, 2L, 1L, way, 1, MAX);
            dueShare(MAX, -2L, 1L, way, 2, MAX);
            dueShare(MIN, MIN, 1L, way, 1, MIN);
            dueShare(MIN, MIN, -1L, way, 2, MIN);
            dueShare(MAX, MAX, 2L, way, 1, MAX);
        }
    }

    private static void shareRefuses() {
        promise = 7;
        for (int way = 0; way < 4; way++) {
            dueShare(5L, 5L, 0L, way, 3, 5L);
            dueShare(0L, 0L, 0L, way, 3, 0L);
            dueShare(MAX, MAX, 0L, way, 3, MAX);
        }
        for (int way : NO_WAYS) {
            dueShare(5L, 5L, 1L, way, -1, 5L);
            dueShare(5L, 5L, 0L, way, -1, 5L);
            dueShare(MAX, MAX, 1L, way, -1, MAX);
        }
        for (int r : NO_REGISTERS) {
            ExactDesk x = filled();
            due("share(" + r + ")", x.share(r, 2L, 1L, 0), -1);
            due("share(" + r + ") by 0", x.share(r, 2L, 0L, 0), -1);
            dueUnchanged("share(" + r + ")", x, -1, -1);
        }
        ExactDesk y = filled();
        due("share", y.share(5, 3L, 1L, 0), 0);
        due("share, get", y.get(5), filledRegister(5) * 3L);
        dueUnchanged("share", y, 5, -1);
    }

    private static void dueEnter(BigInteger before, long a, long v, int fault, BigInteger after) {
        ExactDesk x = withTally(2, before);
        x.set(5, a);
        String call = "enter " + before + " + " + a + " * " + v;
        due(call, x.enter(2, 5, v), fault);
        dueTally(call, x, 2, after);
        due(call + ", get", x.get(5), a);
    }

    private static void enter() {
        promise = 8;
        BigInteger nought = BigInteger.ZERO;
        dueEnter(nought, 6L, 7L, 0, big("42"));
        dueEnter(big("100"), -6L, 7L, 0, big("58"));
        dueEnter(big("-100"), 6L, -7L, 0, big("-142"));
        dueEnter(big("42"), -6L, 7L, 0, nought);
        dueEnter(nought, MIN, 1L, 0, big("-9223372036854775808"));
        dueEnter(nought, MIN, -1L, 0, big("9223372036854775808"));
        dueEnter(big("18446744073709551615"), 1L, 1L, 0, big("18446744073709551616"));
        dueEnter(big("18446744073709551616"), -1L, 1L, 0, big("18446744073709551615"));
        dueEnter(big("-18446744073709551616"), 1L, 1L, 0, big("-18446744073709551615"));
        ExactDesk y = filled();
        due("enter", y.enter(1, 4, 3L), 0);
        dueTally("enter", y, 1, filledTally(1).add(BigInteger.valueOf(filledRegister(4) * 3L)));
        dueUnchanged("enter", y, -1, 1);
    }

    private static void enterEdges() {
        promise = 8;
        BigInteger most = LIMIT.subtract(BigInteger.ONE);
        BigInteger least = most.negate();
        dueEnter(most, 1L, 1L, 1, most);
        dueEnter(most, 1L, 0L, 0, most);
        dueEnter(most.subtract(BigInteger.ONE), 1L, 1L, 0, most);
        dueEnter(least, 1L, -1L, 2, least);
        dueEnter(least.add(BigInteger.ONE), -1L, 1L, 0, least);
        dueEnter(BigInteger.ZERO, E18, E18, 1, BigInteger.ZERO);
        dueEnter(BigInteger.ZERO, E18, -E18, 2, BigInteger.ZERO);
        dueEnter(BigInteger.ZERO, E18 - 1L, E18 + 1L, 0, most);
        dueEnter(BigInteger.ZERO, E18 - 1L, -E18 - 1L, 0, least);
        dueEnter(most, MIN, MIN, 1, most);
        dueEnter(least, MIN, MIN, 1, least);
        dueEnter(least, MIN, MAX, 2, least);
        dueEnter(most, MIN, MAX, 2, most);
        // The product alone has 37 digits, but the sum, which is what counts, has not.
        dueEnter(least, E18, E18, 0, BigInteger.ONE);
        dueEnter(most, E18, -E18, 0, BigInteger.ONE.negate());
        dueEnter(least, E18, 2L * E18 - 1L, 0, big("999999999999999999000000000000000001"));
        dueEnter(least, E18, 2L * E18, 1, least);
        for (int r : NO_REGISTERS) {
            ExactDesk x = filled();
            due("enter(0, " + r + ")", x.enter(0, r, 1L), -1);
            dueUnchanged("enter(0, " + r + ")", x, -1, -1);
        }
        for (int t : NO_TALLIES) {
            ExactDesk x = filled();
            due("enter(" + t + ", 0)", x.enter(t, 0, 1L), -1);
            dueUnchanged("enter(" + t + ", 0)", x, -1, -1);
        }
    }

    private static void dueMerge(BigInteger a, BigInteger b, int fault, BigInteger after) {
        ExactDesk x = withTally(0, a);
        putTally(x, 3, b);
        String call = "merge " + a + " + " + b;
        due(call, x.merge(0, 3), fault);
        dueTally(call, x, 0, after);
        dueTally(call + " (the other)", x, 3, b);
    }

    private static void merge() {
        promise = 9;
        BigInteger most = LIMIT.subtract(BigInteger.ONE);
        BigInteger least = most.negate();
        BigInteger half = LIMIT.shiftRight(1);
        dueMerge(big("5"), big("-7"), 0, big("-2"));
        dueMerge(most, BigInteger.ZERO, 0, most);
        dueMerge(most, BigInteger.ONE, 1, most);
        dueMerge(least, BigInteger.ONE.negate(), 2, least);
        dueMerge(most, least, 0, BigInteger.ZERO);
        dueMerge(most, most, 1, most);
        dueMerge(least, least, 2, least);
        dueMerge(half, half.subtract(BigInteger.ONE), 0, most);
        dueMerge(half, half, 1, half);
        dueMerge(half.negate(), half.negate(), 2, half.negate());
        ExactDesk twice = withTally(1, big("123456789012345678901234567890"));
        due("merge(1, 1)", twice.merge(1, 1), 0);
        dueTally("merge(1, 1)", twice, 1, big("246913578024691357802469135780"));
        ExactDesk y = filled();
        due("merge(2, 1)", y.merge(2, 1), 0);
        dueTally("merge(2, 1)", y, 2, filledTally(2).add(filledTally(1)));
        dueUnchanged("merge(2, 1)", y, -1, 2);
        for (int t : NO_TALLIES) {
            ExactDesk x = filled();
            due("merge(" + t + ", 0)", x.merge(t, 0), -1);
            due("merge(0, " + t + ")", x.merge(0, t), -1);
            dueUnchanged("merge with " + t, x, -1, -1);
        }
    }

    private static void dueSplit(BigInteger before, long d, BigInteger after, long rest) {
        ExactDesk x = withTally(1, before);
        String call = "split " + before + " by " + d;
        due(call, x.split(1, d, 6), 0);
        dueTally(call, x, 1, after);
        due(call + ", get", x.get(6), rest);
    }

    private static void split() {
        promise = 10;
        dueSplit(big("17"), 5L, big("3"), 2L);
        dueSplit(big("-17"), 5L, big("-3"), -2L);
        dueSplit(big("15"), 5L, big("3"), 0L);
        dueSplit(big("-15"), 5L, big("-3"), 0L);
        dueSplit(big("-4"), 5L, BigInteger.ZERO, -4L);
        dueSplit(BigInteger.ZERO, 5L, BigInteger.ZERO, 0L);
        dueSplit(big("-17"), 1L, big("-17"), 0L);
        BigInteger most = LIMIT.subtract(BigInteger.ONE);
        dueSplit(most, 1L, most, 0L);
        dueSplit(most, E18, big("999999999999999999"), 999999999999999999L);
        dueSplit(most.negate(), E18, big("-999999999999999999"), -999999999999999999L);
        dueSplit(most, 999999999999999999L, big("1000000000000000001"), 0L);
        dueSplit(most, 999999999999999989L, most.divide(big("999999999999999989")),
                most.mod(big("999999999999999989")).longValueExact());
        dueSplit(most.negate(), 7L, most.divide(big("7")).negate(), -most.mod(big("7")).longValueExact());
        dueSplit(big("18446744073709551616"), 2L, big("9223372036854775808"), 0L);
        dueSplit(big("999999999999999999"), E18, BigInteger.ZERO, 999999999999999999L);
        ExactDesk y = filled();
        due("split(3, 10, 2)", y.split(3, 10L, 2), 0);
        dueTally("split(3, 10, 2)", y, 3, filledTally(3).divide(BigInteger.TEN));
        due("split(3, 10, 2), get", y.get(2), -3L);
        dueUnchanged("split(3, 10, 2)", y, 2, 3);
    }

    private static void splitEdges() {
        promise = 10;
        ExactDesk x = filled();
        due("split by 0", x.split(0, 0L, 0), 3);
        due("split by -1", x.split(0, -1L, 0), -1);
        due("split by MIN", x.split(0, MIN, 0), -1);
        due("split by 10^18 + 1", x.split(0, E18 + 1L, 0), -1);
        due("split by MAX", x.split(0, MAX, 0), -1);
        dueUnchanged("split by a wrong divisor", x, -1, -1);
        for (int r : NO_REGISTERS) {
            due("split to " + r, x.split(0, 3L, r), -1);
            due("split by 0 to " + r, x.split(0, 0L, r), -1);
        }
        for (int t : NO_TALLIES) {
            due("split of " + t, x.split(t, 3L, 0), -1);
            due("split by 0 of " + t, x.split(t, 0L, 0), -1);
        }
        dueUnchanged("split of none", x, -1, -1);
        ExactDesk empty = new ExactDesk();
        due("split of 0 by 0", empty.split(0, 0L, 0), 3);
    }

    private static void dueTake(BigInteger tally, int fault, long after) {
        ExactDesk x = withTally(3, tally);
        x.set(4, 11L);
        due("take " + tally, x.take(3, 4), fault);
        due("take " + tally + ", get", x.get(4), after);
        dueTally("take " + tally, x, 3, tally);
    }

    private static void take() {
        promise = 11;
        dueTake(BigInteger.ZERO, 0, 0L);
        dueTake(big("42"), 0, 42L);
        dueTake(big("-42"), 0, -42L);
        dueTake(big("9223372036854775807"), 0, MAX);
        dueTake(big("9223372036854775808"), 1, 11L);
        dueTake(big("-9223372036854775808"), 0, MIN);
        dueTake(big("-9223372036854775809"), 2, 11L);
        dueTake(big("18446744073709551616"), 1, 11L);
        dueTake(big("18446744073709551617"), 1, 11L);
        dueTake(big("-18446744073709551616"), 2, 11L);
        dueTake(LIMIT.subtract(BigInteger.ONE), 1, 11L);
        dueTake(BigInteger.ONE.subtract(LIMIT), 2, 11L);
        ExactDesk y = filled();
        y.clear(0);
        due("take(0, 5)", y.take(0, 5), 0);
        due("take(0, 5), get", y.get(5), 0L);
        dueUnchanged("take(0, 5)", y, 5, 0);
        for (int r : NO_REGISTERS) {
            ExactDesk x = filled();
            due("take(0, " + r + ")", x.take(0, r), -1);
            dueUnchanged("take(0, " + r + ")", x, -1, -1);
        }
        for (int t : NO_TALLIES) {
            ExactDesk x = filled();
            due("take(" + t + ", 0)", x.take(t, 0), -1);
            dueUnchanged("take(" + t + ", 0)", x, -1, -1);
        }
    }

    private static void clear() {
        promise = 12;
        for (int t = 0; t < 4; t++) {
            ExactDesk x = filled();
            due("clear(" + t + ")", x.clear(t), true);
            dueTally("clear(" + t + ")", x, t, BigInteger.ZERO);
            dueUnchanged("clear(" + t + ")", x, -1, t);
            due("clear(" + t + ") again", x.clear(t), true);
        }
        for (int t : NO_TALLIES) {
            ExactDesk x = filled();
            due("clear(" + t + ")", x.clear(t), false);
            dueUnchanged("clear(" + t + ")", x, -1, -1);
        }
    }

    private static void compare() {
        promise = 13;
        String[] rising = {
            "-999999999999999999999999999999999999", "-18446744073709551617", "-18446744073709551616",
            "-18446744073709551615", "-9223372036854775809", "-9223372036854775808", "-2", "-1", "0", "1", "2",
            "9223372036854775807", "9223372036854775808", "18446744073709551615", "18446744073709551616",
            "999999999999999999999999999999999999"};
        for (int i = 0; i < rising.length; i++) {
            for (int j = 0; j < rising.length; j++) {
                ExactDesk x = withTally(0, big(rising[i]));
                putTally(x, 1, big(rising[j]));
                due("compare " + rising[i] + " with " + rising[j], x.compare(0, 1), Integer.compare(i, j));
            }
        }
        ExactDesk y = filled();
        for (int t = 0; t < 4; t++) {
            due("compare(" + t + ", " + t + ")", y.compare(t, t), 0);
        }
        for (int t : NO_TALLIES) {
            due("compare(0, " + t + ")", y.compare(0, t), -2);
            due("compare(" + t + ", 3)", y.compare(t, 3), -2);
            due("compare(" + t + ", " + t + ")", y.compare(t, t), -2);
        }
        dueUnchanged("compare", y, -1, -1);
    }

    private static void digits() {
        promise = 14;
        due("digits of 0", new ExactDesk().digits(0), 1);
        for (int n = 1; n <= 36; n++) {
            BigInteger least = BigInteger.TEN.pow(n - 1);
            BigInteger most = BigInteger.TEN.pow(n).subtract(BigInteger.ONE);
            due("digits of 10^" + (n - 1), withTally(0, least).digits(0), n);
            due("digits of -10^" + (n - 1), withTally(1, least.negate()).digits(1), -n);
            due("digits of 10^" + n + " - 1", withTally(2, most).digits(2), n);
            due("digits of 1 - 10^" + n, withTally(3, most.negate()).digits(3), -n);
        }
        ExactDesk x = filled();
        for (int t : NO_TALLIES) {
            due("digits(" + t + ")", x.digits(t), 0);
        }
        dueUnchanged("digits", x, -1, -1);
    }

    private static void digit() {
        promise = 15;
        String text = "987654321012345678909876543210123456";
        ExactDesk x = withTally(0, big(text));
        putTally(x, 1, big("-" + text));
        putTally(x, 2, big("-507"));
        for (int k = 0; k < 36; k++) {
            int want = text.charAt(35 - k) - '0';
            due("digit(0, " + k + ")", x.digit(0, k), want);
            due("digit(1, " + k + ")", x.digit(1, k), want);
            due("digit(3, " + k + ")", x.digit(3, k), 0);
        }
        due("digit(2, 0)", x.digit(2, 0), 7);
        due("digit(2, 1)", x.digit(2, 1), 0);
        due("digit(2, 2)", x.digit(2, 2), 5);
        due("digit(2, 3)", x.digit(2, 3), 0);
        due("digit(2, 35)", x.digit(2, 35), 0);
        for (int k : new int[] {-1, 36, 37, Integer.MAX_VALUE, Integer.MIN_VALUE}) {
            due("digit(0, " + k + ")", x.digit(0, k), -1);
        }
        for (int t : NO_TALLIES) {
            due("digit(" + t + ", 0)", x.digit(t, 0), -1);
            due("digit(" + t + ", 36)", x.digit(t, 36), -1);
        }
        dueTally("digit", x, 0, big(text));
    }

    private static void objectsAreApart() {
        promise = 1;
        ExactDesk changed = filled();
        ExactDesk fresh = new ExactDesk();
        due("another object's get(0)", fresh.get(0), 0L);
        due("another object's digits(0)", fresh.digits(0), 1);
        fresh.set(0, 1L);
        fresh.clear(0);
        dueUnchanged("calls on another object", changed, -1, -1);
    }
}
