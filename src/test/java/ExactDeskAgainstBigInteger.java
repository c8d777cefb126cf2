import java.math.BigInteger;
import java.util.Random;

/** Runs of mixed calls, each answer and each change held against a desk made of BigIntegers. */
public final class ExactDeskAgainstBigInteger {
    private static final int RUNS = 12000;
    /** With the 156 calls that look at the whole state, no object is used for more than 512. */
    private static final int CALLS = 512 - 156;
    private static final int METHODS = 14;
    private static final long E18 = 1000000000000000000L;
    private static final long[] EDGES = {
        0L, 1L, -1L, 2L, -2L, 3L, 7L, 10L, -10L, Long.MAX_VALUE, Long.MIN_VALUE, Long.MAX_VALUE - 1L,
        Long.MIN_VALUE + 1L, E18, -E18, E18 - 1L, E18 + 1L, 1L << 31, 1L << 32, -(1L << 32), 0xFFFFFFFFL,
        1L << 62, -(1L << 62), 3037000499L, 3037000500L, 6148914691236517205L};
    private static final int[] WILD = {-1, 4, 8, 36, 9, -7, Integer.MAX_VALUE, Integer.MIN_VALUE};

    /** What the document says, written as plainly as the library allows. */
    private static final class Model {
        private static final BigInteger LIMIT = BigInteger.TEN.pow(36);
        private final BigInteger[] registers = new BigInteger[8];
        private final BigInteger[] tallies = new BigInteger[4];

        Model() {
            java.util.Arrays.fill(registers, BigInteger.ZERO);
            java.util.Arrays.fill(tallies, BigInteger.ZERO);
        }

        static boolean noRegister(int r) {
            return r < 0 || r > 7;
        }

        static boolean noTally(int t) {
            return t < 0 || t > 3;
        }

        long register(int r, BigInteger v) {
            if (v.bitLength() > 63) {
                return v.signum() > 0 ? 1 : 2;
            }
            registers[r] = v;
            return 0;
        }

        long tally(int t, BigInteger v) {
            if (v.abs().compareTo(LIMIT) >= 0) {
                return v.signum() > 0 ? 1 : 2;
            }
            tallies[t] = v;
            return 0;
        }

        static BigInteger rounded(BigInteger n, BigInteger d, int way) {
            BigInteger above = d.signum() < 0 ? n.negate() : n;
            BigInteger below = d.abs();
            BigInteger down = above.subtract(above.mod(below)).divide(below);
            BigInteger up = above.mod(below).signum() == 0 ? down : down.add(BigInteger.ONE);
            switch (way) {
                case 0:
                    return down;
                case 1:
                    return up;
                case 2:
                    return above.signum() < 0 ? up : down;
                default:
                    // (2n + d) / 2d rounded down is the nearest, a half upward; so for the size.
                    BigInteger two = BigInteger.TWO;
                    BigInteger size = above.abs().multiply(two).add(below).divide(below.multiply(two));
                    return above.signum() < 0 ? size.negate() : size;
            }
        }

        long share(int r, long b, long c, int way) {
            if (noRegister(r) || way < 0 || way > 3) {
                return -1;
            }
            if (c == 0) {
                return 3;
            }
            return register(r, rounded(registers[r].multiply(BigInteger.valueOf(b)), BigInteger.valueOf(c), way));
        }

        long split(int t, long d, int r) {
            if (noTally(t) || noRegister(r) || d < 0 || d > E18) {
                return -1;
            }
            if (d == 0) {
                return 3;
            }
            BigInteger[] both = tallies[t].divideAndRemainder(BigInteger.valueOf(d));
            tallies[t] = both[0];
            registers[r] = both[1];
            return 0;
        }

        String text(int t) {
            return tallies[t].abs().toString();
        }

        long digits(int t) {
            if (noTally(t)) {
                return 0;
            }
            return tallies[t].signum() < 0 ? -text(t).length() : text(t).length();
        }

        long digit(int t, int k) {
            if (noTally(t) || k < 0 || k > 35) {
                return -1;
            }
            int place = text(t).length() - 1 - k;
            return place < 0 ? 0 : text(t).charAt(place) - '0';
        }
    }

    private static final Random random = new Random(20261115L);

    private static int index(int size) {
        return random.nextInt(24) == 0 ? WILD[random.nextInt(WILD.length)] : random.nextInt(size);
    }

    private static long value() {
        switch (random.nextInt(4)) {
            case 0:
                return EDGES[random.nextInt(EDGES.length)];
            case 1:
                return random.nextInt(41) - 20;
            default:
                return random.nextLong() >> random.nextInt(64);
        }
    }

    private static long divisor() {
        long v = value();
        return random.nextInt(8) == 0 ? v : (v & Long.MAX_VALUE) % (E18 + 1L);
    }

    private static BigInteger big(long v) {
        return BigInteger.valueOf(v);
    }

    private static long bit(boolean answer) {
        return answer ? 1L : 0L;
    }

    private static String call = "";

    /** Makes one call on both; answers what they said, the program first. */
    private static long[] step(ExactDesk x, Model m) {
        int method = random.nextInt(METHODS);
        int r = index(8);
        int t = index(4);
        int u = index(4);
        int way = index(4);
        int k = index(36);
        long v = value();
        long c = value();
        long d = divisor();
        call = "method " + method + " r=" + r + " t=" + t + " u=" + u + " way=" + way + " k=" + k
                + " v=" + v + " c=" + c + " d=" + d;
        boolean noR = Model.noRegister(r);
        boolean noT = Model.noTally(t);
        boolean noU = Model.noTally(u);
        switch (method) {
            case 0:
                return new long[] {bit(x.set(r, v)), noR ? 0 : 1 + m.register(r, big(v))};
            case 1:
                return new long[] {x.get(r), noR ? 0 : m.registers[r].longValueExact()};
            case 2:
                return new long[] {x.add(r, v), noR ? -1 : m.register(r, m.registers[r].add(big(v)))};
            case 3:
                return new long[] {x.subtract(r, v), noR ? -1 : m.register(r, m.registers[r].subtract(big(v)))};
            case 4:
                return new long[] {x.times(r, v), noR ? -1 : m.register(r, m.registers[r].multiply(big(v)))};
            case 5:
                return new long[] {x.share(r, v, c, way), m.share(r, v, c, way)};
            case 6:
                return new long[] {x.enter(t, r, v),
                    noT || noR ? -1 : m.tally(t, m.tallies[t].add(m.registers[r].multiply(big(v))))};
            case 7:
                return new long[] {x.merge(t, u), noT || noU ? -1 : m.tally(t, m.tallies[t].add(m.tallies[u]))};
            case 8:
                return new long[] {x.split(t, d, r), m.split(t, d, r)};
            case 9:
                return new long[] {x.take(t, r), noT || noR ? -1 : m.register(r, m.tallies[t])};
            case 10:
                return new long[] {bit(x.clear(t)), noT ? 0 : 1 + m.tally(t, BigInteger.ZERO)};
            case 11:
                return new long[] {x.compare(t, u), noT || noU ? -2 : m.tallies[t].compareTo(m.tallies[u])};
            case 12:
                return new long[] {x.digits(t), m.digits(t)};
            default:
                return new long[] {x.digit(t, k), m.digit(t, k)};
        }
    }

    private static boolean sameState(ExactDesk x, Model m) {
        for (int r = 0; r < 8; r++) {
            if (x.get(r) != m.registers[r].longValueExact()) {
                return false;
            }
        }
        for (int t = 0; t < 4; t++) {
            if (x.digits(t) != m.digits(t)) {
                return false;
            }
            for (int k = 0; k < 36; k++) {
                if (x.digit(t, k) != m.digit(t, k)) {
                    return false;
                }
            }
        }
        return true;
    }

    private static boolean runIsRight(int run) {
        ExactDesk x = new ExactDesk();
        Model m = new Model();
        // Of every length, so that each kind of call comes to be the last one before the state is looked at.
        int calls = 1 + random.nextInt(CALLS);
        for (int n = 0; n < calls; n++) {
            long[] both = step(x, m);
            if (both[0] != both[1]) {
                System.out.println("run " + run + ", call " + n + ": " + call + " answered " + both[0]
                        + ", due is " + both[1]);
                return false;
            }
        }
        if (!sameState(x, m)) {
            System.out.println("run " + run + ": the state at the end is not as due");
            return false;
        }
        return true;
    }

    public static void main(String[] args) {
        int wrong = 0;
        for (int run = 0; run < RUNS; run++) {
            if (!runIsRight(run)) {
                wrong++;
            }
        }
        System.out.println(RUNS + " runs, " + wrong + " not as due");
        if (wrong != 0) {
            System.exit(1);
        }
    }
}
