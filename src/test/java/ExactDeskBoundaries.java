import java.math.BigInteger;

/**
 * Each sentence of the document that names a boundary, with a test of its own on both of its sides.
 * Behind every call the whole desk is looked at, so that a fault or a refusal that changes anything shows.
 */
public final class ExactDeskBoundaries {
    private static final long MAX = Long.MAX_VALUE;
    private static final long MIN = Long.MIN_VALUE;
    private static final long E18 = 1000000000000000000L;
    private static final BigInteger ONE = BigInteger.ONE;
    private static final BigInteger FULL = BigInteger.TEN.pow(36).subtract(ONE);
    private static final BigInteger ABOVE_LONG = BigInteger.TWO.pow(63);
    private static final BigInteger WORD = BigInteger.TWO.pow(64);
    private static final int[] NO_REGISTERS = {-1, 8, Integer.MIN_VALUE, Integer.MAX_VALUE};
    private static final int[] NO_TALLIES = {-1, 4, Integer.MIN_VALUE, Integer.MAX_VALUE};
    private static final int[] NO_WAYS = {-1, 4, Integer.MIN_VALUE, Integer.MAX_VALUE};
    private static final int[] NO_PLACES = {-1, 36, Integer.MIN_VALUE, Integer.MAX_VALUE};

    private static String sentence = "";
    private static int sentences = 0;
    private static int looked = 0;
    private static int wrong = 0;

    public static void main(String[] args) {
        terms();
        faults();
        roundings();
        refusals();
        registerPromises();
        tallyPromises();
        System.out.println(sentences + " sentences, " + looked + " answers looked at, " + wrong + " not as due");
        if (wrong != 0) {
            System.exit(1);
        }
    }

    private static void terms() {
        lastCallThatIsPromised();
        allAreNoughtAtFirst();
        registersHaveALongEach();
        talliesHaveAtMost36Digits();
        whatIsWorkedOutIsExact();
    }

    private static void faults() {
        registerTooGreat();
        registerTooSmall();
        registerFarOutside();
        tallyTooGreat();
        tallyTooSmall();
        divisionByNought();
        noughtIsLookedAtFirst();
    }

    private static void roundings() {
        roundedDown();
        roundedUp();
        roundedTowardsNought();
        roundedToTheNearest();
        roundedOverTheEdge();
    }

    private static void refusals() {
        noSuchRegister();
        noSuchTally();
        noSuchWay();
        refusedBeforeFaulted();
    }

    private static void registerPromises() {
        setRefuses();
        getOfNone();
        addAtItsEdges();
        subtractAtItsEdges();
        timesAtItsEdges();
        shareAtItsEdges();
    }

    private static void tallyPromises() {
        enterAtItsEdges();
        mergeAtItsEdges();
        splitByNought();
        splitOutsideItsDivisors();
        splitLeavesOver();
        takeAtItsEdges();
        clearAtItsEdges();
        compareOrders();
        compareOfNone();
        digitsCounts();
        digitsOfNone();
        digitTells();
        digitWhereItHasNone();
        digitOfNone();
    }

    // --- what the tests are written with ---

    private interface Call {
        long on(ExactDesk x);
    }

    /** A call that names one register, tally, way or place. */
    private interface CallAt {
        long on(ExactDesk x, int index);
    }

    /** A desk beside what it is due to hold; all of it differs at first, so that a stray change shows. */
    private static final class Scene {
        final ExactDesk desk = new ExactDesk();
        final long[] registers = new long[8];
        final BigInteger[] tallies = new BigInteger[4];

        Scene() {
            for (int t = 0; t < 4; t++) {
                BigInteger size = BigInteger.TEN.pow(20 + t).add(big(t + 1));
                tally(t, t % 2 == 0 ? size : size.negate());
            }
            for (int r = 0; r < 8; r++) {
                register(r, r % 2 == 0 ? 101L + r : -101L - r);
            }
        }

        Scene register(int r, long v) {
            desk.set(r, v);
            registers[r] = v;
            return this;
        }

        /** From two halves of 18 digits, by way of register 7, which is given back what it had. */
        Scene tally(int t, BigInteger v) {
            BigInteger[] halves = v.divideAndRemainder(big(E18));
            desk.clear(t);
            desk.set(7, halves[0].longValueExact());
            desk.enter(t, 7, E18);
            desk.set(7, halves[1].longValueExact());
            desk.enter(t, 7, 1L);
            desk.set(7, registers[7]);
            tallies[t] = v;
            return this;
        }

        void keeps(String what, long answer, Call call) {
            answers(what, answer, call);
            look(what);
        }

        void givesRegister(String what, int r, long v, Call call) {
            answers(what, 0, call);
            registers[r] = v;
            look(what);
        }

        void givesTally(String what, int t, BigInteger v, Call call) {
            answers(what, 0, call);
            tallies[t] = v;
            look(what);
        }

        private void answers(String what, long answer, Call call) {
            // Another sum before it, so that the call cannot live on what filling the scene left behind.
            due(what + ", first add(0, 0)", desk.add(0, 0L), 0);
            due(what, call.on(desk), answer);
        }

        /** 156 calls: with those that fill it, a scene can be looked at twice within 512. */
        void look(String what) {
            for (int r = 0; r < 8; r++) {
                due(what + ", then get(" + r + ")", desk.get(r), registers[r]);
            }
            for (int t = 0; t < 4; t++) {
                String text = tallies[t].abs().toString();
                due(what + ", then digits(" + t + ")", desk.digits(t),
                        tallies[t].signum() < 0 ? -text.length() : text.length());
                for (int k = 0; k < 36; k++) {
                    due(what + ", then digit(" + t + ", " + k + ")", desk.digit(t, k),
                            k < text.length() ? text.charAt(text.length() - 1 - k) - '0' : 0);
                }
            }
        }
    }

    /** The heading in the document, and the words under it that the test holds; " .. " leaves words out. */
    private static void says(String heading, String words) {
        sentence = heading + ", \"" + words + "\"";
        sentences++;
    }

    private static void due(String what, long got, long want) {
        looked++;
        if (got != want) {
            wrong++;
            System.out.println(sentence + ": " + what + " answered " + got + ", due is " + want);
        }
    }

    private static long bit(boolean answer) {
        return answer ? 1L : 0L;
    }

    private static BigInteger big(long v) {
        return BigInteger.valueOf(v);
    }

    /** The call is refused at each of the places, and changes nothing. */
    private static void refusedAt(int[] places, String what, long answer, CallAt call) {
        for (int place : places) {
            new Scene().keeps(what + " at " + place, answer, x -> call.on(x, place));
        }
    }

    // --- Terms ---

    private static void lastCallThatIsPromised() {
        says("What it is", "An object is used for at most 512 calls after it has been made");
        ExactDesk x = new ExactDesk();
        for (int n = 1; n < 512; n++) {
            due("call " + n + ", add", x.add(0, 1L), 0);
        }
        due("call 512, get", x.get(0), 511L);
        ExactDesk y = new ExactDesk();
        y.set(7, E18 - 1L);
        for (int n = 2; n < 512; n++) {
            due("call " + n + ", enter", y.enter(3, 7, 1000000000000000L), 0);
        }
        due("call 512, digits", y.digits(3), 36);
    }

    private static void allAreNoughtAtFirst() {
        says("Terms", "all are 0 at first");
        ExactDesk x = new ExactDesk();
        for (int r = 0; r < 8; r++) {
            due("get(" + r + ")", x.get(r), 0L);
        }
        for (int t = 0; t < 4; t++) {
            due("digits(" + t + ")", x.digits(t), 1);
            for (int k = 0; k < 36; k++) {
                due("digit(" + t + ", " + k + ")", x.digit(t, k), 0);
            }
            due("take(" + t + ", 0)", x.take(t, 0), 0);
            due("take, get(0)", x.get(0), 0L);
            for (int u = 0; u < 4; u++) {
                due("compare(" + t + ", " + u + ")", x.compare(t, u), 0);
            }
        }
        new Scene();
        due("get(0) after another object has been filled", new ExactDesk().get(0), 0L);
        due("digits(0) after another object has been filled", new ExactDesk().digits(0), 1);
    }

    private static void registersHaveALongEach() {
        says("Terms", "REGISTERS 0 .. 7 have a long each");
        for (int r = 0; r < 8; r++) {
            int place = r;
            for (long v : new long[] {MIN, -1L, 0L, 1L, MAX}) {
                Scene s = new Scene();
                due("set(" + r + ", " + v + ")", bit(s.desk.set(place, v)), 1L);
                s.registers[r] = v;
                s.look("set(" + r + ", " + v + ")");
            }
            long had = new Scene().registers[r];
            new Scene().givesRegister("add(" + r + ", 5)", r, had + 5L, x -> x.add(place, 5L));
            new Scene().givesRegister("subtract(" + r + ", 5)", r, had - 5L, x -> x.subtract(place, 5L));
            new Scene().givesRegister("times(" + r + ", 5)", r, had * 5L, x -> x.times(place, 5L));
            new Scene().givesRegister("share(" + r + ", 6, 2, 0)", r, had * 3L, x -> x.share(place, 6L, 2L, 0));
            new Scene().givesTally("enter(0, " + r + ", 1)", 0, new Scene().tallies[0].add(big(had)),
                    x -> x.enter(0, place, 1L));
            new Scene().tally(0, big(5L)).givesRegister("take(0, " + r + ")", r, 5L, x -> x.take(0, place));
            Scene s = new Scene().tally(0, big(7L));
            s.registers[r] = 3L;
            s.givesTally("split(0, 4, " + r + ")", 0, ONE, x -> x.split(0, 4L, place));
        }
    }

    private static void talliesHaveAtMost36Digits() {
        says("Terms", "TALLIES 0 .. 3 a whole number of at most 36 digits");
        for (int t = 0; t < 4; t++) {
            int place = t;
            new Scene().tally(t, FULL).look("the fullest tally " + t);
            new Scene().tally(t, FULL.negate()).look("the fullest tally " + t + " below 0");
            new Scene().register(2, 1L).tally(t, FULL.subtract(ONE))
                    .givesTally("enter to 36 nines in " + t, t, FULL, x -> x.enter(place, 2, 1L));
            new Scene().register(2, 1L).tally(t, FULL)
                    .keeps("enter to 37 digits in " + t, 1, x -> x.enter(place, 2, 1L));
            new Scene().register(2, 1L).tally(t, FULL.negate())
                    .keeps("enter to 37 digits below 0 in " + t, 2, x -> x.enter(place, 2, -1L));
        }
    }

    private static void whatIsWorkedOutIsExact() {
        says("Terms", "What an operation works out is exact");
        // Outcomes that fit, by way of numbers that do not.
        new Scene().register(1, MAX).givesRegister("MAX * MAX / MAX", 1, MAX, x -> x.share(1, MAX, MAX, 0));
        new Scene().register(1, MIN).givesRegister("MIN * MIN / MIN", 1, MIN, x -> x.share(1, MIN, MIN, 0));
        new Scene().register(1, MIN).givesRegister("MIN * MAX / MIN", 1, MAX, x -> x.share(1, MAX, MIN, 0));
        new Scene().register(1, MAX).givesRegister("MAX * MAX / MIN", 1, 2L - MAX - 1L, x -> x.share(1, MAX, MIN, 2));
        new Scene().register(1, -1L).givesRegister("-1 - MIN", 1, MAX, x -> x.subtract(1, MIN));
        new Scene().register(1, E18).tally(2, FULL.negate())
                .givesTally("1 - 10^36 + 10^18 * 10^18", 2, ONE, x -> x.enter(2, 1, E18));
        new Scene().register(1, E18).tally(2, FULL)
                .givesTally("10^36 - 1 - 10^18 * 10^18", 2, ONE.negate(), x -> x.enter(2, 1, -E18));
        // Where the lower word of 64 bits turns over.
        new Scene().register(1, 1L).tally(2, WORD.subtract(ONE))
                .givesTally("2^64 - 1 + 1", 2, WORD, x -> x.enter(2, 1, 1L));
        new Scene().register(1, 1L).tally(2, WORD)
                .givesTally("2^64 + -1", 2, WORD.subtract(ONE), x -> x.enter(2, 1, -1L));
        new Scene().register(1, 1L).tally(2, WORD.negate())
                .givesTally("-2^64 + 1", 2, ONE.subtract(WORD), x -> x.enter(2, 1, 1L));
        new Scene().tally(1, WORD.subtract(ONE)).tally(2, ONE.subtract(WORD))
                .givesTally("2^64 - 1 - (2^64 - 1)", 1, BigInteger.ZERO, x -> x.merge(1, 2));
    }

    // --- The faults ---

    private static void registerTooGreat() {
        says("Terms", "a register: a long .. 1 ABOVE (too great)");
        long half = 1L << 62;
        new Scene().register(3, MAX - 1L).givesRegister("MAX - 1 + 1", 3, MAX, x -> x.add(3, 1L));
        new Scene().register(3, MAX).keeps("MAX + 1", 1, x -> x.add(3, 1L));
        new Scene().register(3, MAX - 1L).givesRegister("MAX - 1 - -1", 3, MAX, x -> x.subtract(3, -1L));
        new Scene().register(3, MAX).keeps("MAX - -1", 1, x -> x.subtract(3, -1L));
        new Scene().register(3, MAX / 7L).givesRegister("MAX / 7 * 7", 3, MAX, x -> x.times(3, 7L));
        new Scene().register(3, half).keeps("2^62 * 2", 1, x -> x.times(3, 2L));
        new Scene().register(3, MAX).givesRegister("MAX * 2 / 2", 3, MAX, x -> x.share(3, 2L, 2L, 0));
        new Scene().register(3, half).keeps("2^62 * 4 / 2", 1, x -> x.share(3, 4L, 2L, 0));
        new Scene().tally(1, ABOVE_LONG.subtract(ONE)).givesRegister("take of 2^63 - 1", 3, MAX, x -> x.take(1, 3));
        new Scene().tally(1, ABOVE_LONG).keeps("take of 2^63", 1, x -> x.take(1, 3));
    }

    private static void registerTooSmall() {
        says("Terms", "a register: a long .. 2 BELOW (too small)");
        // 3 * third is 2^63 + 1, the first number that is too great on the other side of 0.
        long third = 3074457345618258603L;
        new Scene().register(3, MIN + 1L).givesRegister("MIN + 1 - 1", 3, MIN, x -> x.add(3, -1L));
        new Scene().register(3, MIN).keeps("MIN + -1", 2, x -> x.add(3, -1L));
        new Scene().register(3, MIN + 1L).givesRegister("MIN + 1 - 1", 3, MIN, x -> x.subtract(3, 1L));
        new Scene().register(3, MIN).keeps("MIN - 1", 2, x -> x.subtract(3, 1L));
        new Scene().register(3, 1L << 62).givesRegister("2^62 * -2", 3, MIN, x -> x.times(3, -2L));
        new Scene().register(3, third).keeps("-(2^63 + 1)", 2, x -> x.times(3, -3L));
        new Scene().register(3, MIN).givesRegister("MIN * 3 / 3", 3, MIN, x -> x.share(3, 3L, 3L, 0));
        new Scene().register(3, third).keeps("-(2^63 + 1) * 2 / 2", 2, x -> x.share(3, -6L, 2L, 0));
        new Scene().tally(1, ABOVE_LONG.negate()).givesRegister("take of -2^63", 3, MIN, x -> x.take(1, 3));
        new Scene().tally(1, ABOVE_LONG.negate().subtract(ONE)).keeps("take of -2^63 - 1", 2, x -> x.take(1, 3));
    }

    /** Outcomes that would be a good long again if they wrapped. */
    private static void registerFarOutside() {
        says("What it is", "named faults in the place of wrapping");
        new Scene().register(3, MIN).keeps("MIN + MIN", 2, x -> x.add(3, MIN));
        new Scene().register(3, MAX).keeps("MAX + MAX", 1, x -> x.add(3, MAX));
        new Scene().register(3, MAX).keeps("MAX - MIN", 1, x -> x.subtract(3, MIN));
        new Scene().register(3, MIN).keeps("MIN - MAX", 2, x -> x.subtract(3, MAX));
        new Scene().register(3, 1L << 32).keeps("2^32 * 2^32", 1, x -> x.times(3, 1L << 32));
        new Scene().register(3, 1L << 62).keeps("2^62 * 5", 1, x -> x.times(3, 5L));
        new Scene().register(3, 1L << 62).keeps("2^62 * -5", 2, x -> x.times(3, -5L));
        new Scene().register(3, MIN).keeps("MIN * MIN", 1, x -> x.times(3, MIN));
        new Scene().register(3, MIN).keeps("MIN * MAX", 2, x -> x.times(3, MAX));
        new Scene().register(3, MAX).keeps("MAX * MAX", 1, x -> x.times(3, MAX));
        for (int way = 0; way < 4; way++) {
            int w = way;
            new Scene().register(3, MIN).keeps("MIN * MIN / 1", 1, x -> x.share(3, MIN, 1L, w));
            new Scene().register(3, MIN).keeps("MIN * MIN / -1", 2, x -> x.share(3, MIN, -1L, w));
            new Scene().register(3, 1L << 62).keeps("2^62 * 8 / 2", 1, x -> x.share(3, 8L, 2L, w));
            new Scene().register(3, 1L << 62).keeps("2^62 * 8 / -2", 2, x -> x.share(3, 8L, -2L, w));
        }
        BigInteger[] far = {WORD, WORD.add(ONE), WORD.add(big(MAX)), BigInteger.TWO.pow(119), FULL};
        for (BigInteger v : far) {
            new Scene().tally(2, v).keeps("take of " + v, 1, x -> x.take(2, 3));
            new Scene().tally(2, v.negate()).keeps("take of -" + v, 2, x -> x.take(2, 3));
        }
    }

    private static void tallyTooGreat() {
        says("Terms", "a tally: at most 36 digits .. 1 ABOVE (too great)");
        new Scene().tally(1, BigInteger.ZERO).register(4, E18 - 1L)
                .givesTally("(10^18 - 1) * (10^18 + 1)", 1, FULL, x -> x.enter(1, 4, E18 + 1L));
        new Scene().tally(1, BigInteger.ZERO).register(4, E18).keeps("10^18 * 10^18", 1, x -> x.enter(1, 4, E18));
        new Scene().tally(1, FULL).register(4, MIN).keeps("full + MIN * MIN", 1, x -> x.enter(1, 4, MIN));
        new Scene().tally(1, FULL.negate()).register(4, MIN).keeps("-full + MIN * MIN", 1, x -> x.enter(1, 4, MIN));
        new Scene().tally(1, FULL.subtract(ONE)).tally(2, ONE)
                .givesTally("merge to 36 nines", 1, FULL, x -> x.merge(1, 2));
        new Scene().tally(1, FULL).tally(2, ONE).keeps("merge to 37 digits", 1, x -> x.merge(1, 2));
        new Scene().tally(1, FULL).tally(2, FULL).keeps("merge of two full ones", 1, x -> x.merge(1, 2));
    }

    private static void tallyTooSmall() {
        says("Terms", "a tally: at most 36 digits .. 2 BELOW (too small)");
        new Scene().tally(1, BigInteger.ZERO).register(4, E18 - 1L)
                .givesTally("-(10^18 - 1) * (10^18 + 1)", 1, FULL.negate(), x -> x.enter(1, 4, -E18 - 1L));
        new Scene().tally(1, BigInteger.ZERO).register(4, E18).keeps("10^18 * -10^18", 2, x -> x.enter(1, 4, -E18));
        new Scene().tally(1, FULL).register(4, MIN).keeps("full + MIN * MAX", 2, x -> x.enter(1, 4, MAX));
        new Scene().tally(1, FULL.negate()).register(4, MIN).keeps("-full + MIN * MAX", 2, x -> x.enter(1, 4, MAX));
        new Scene().tally(1, ONE.subtract(FULL)).tally(2, ONE.negate())
                .givesTally("merge to 36 nines below 0", 1, FULL.negate(), x -> x.merge(1, 2));
        new Scene().tally(1, FULL.negate()).tally(2, ONE.negate()).keeps("merge to -10^36", 2, x -> x.merge(1, 2));
        new Scene().tally(1, FULL.negate()).tally(2, FULL.negate())
                .keeps("merge of two full ones below 0", 2, x -> x.merge(1, 2));
    }

    private static void divisionByNought() {
        says("Terms", "3 NOUGHT (a division by 0");
        for (int way = 0; way < 4; way++) {
            int w = way;
            new Scene().register(5, 12L).keeps("12 * 2 / 0 in way " + w, 3, x -> x.share(5, 2L, 0L, w));
            new Scene().register(5, 12L).givesRegister("12 * 2 / 1 in way " + w, 5, 24L, x -> x.share(5, 2L, 1L, w));
            new Scene().register(5, 12L).givesRegister("12 * 2 / -1 in way " + w, 5, -24L, x -> x.share(5, 2L, -1L, w));
            new Scene().register(5, 0L).keeps("0 * 0 / 0 in way " + w, 3, x -> x.share(5, 0L, 0L, w));
        }
    }

    private static void noughtIsLookedAtFirst() {
        says("Terms", "a division by 0, looked at first");
        for (int way = 0; way < 4; way++) {
            int w = way;
            new Scene().register(5, MAX).keeps("MAX * MAX / 0", 3, x -> x.share(5, MAX, 0L, w));
            new Scene().register(5, MAX).keeps("MAX * MIN / 0", 3, x -> x.share(5, MIN, 0L, w));
            new Scene().register(5, MAX).keeps("MAX * MAX / 1", 1, x -> x.share(5, MAX, 1L, w));
            new Scene().register(5, MAX).keeps("MAX * MAX / -1", 2, x -> x.share(5, MAX, -1L, w));
        }
    }

    // --- The ways of rounding ---

    private static void rounds(int way, long a, long c, long want) {
        String what = a + " / " + c + " in way " + way;
        new Scene().register(6, a).givesRegister(what, 6, want, x -> x.share(6, 1L, c, way));
        new Scene().register(6, 1L).givesRegister("1 * " + what, 6, want, x -> x.share(6, a, c, way));
        new Scene().register(6, -a).givesRegister("both turned, " + what, 6, want, x -> x.share(6, 1L, -c, way));
    }

    private static void roundedDown() {
        says("Terms", "0 down (to the lesser whole number)");
        rounds(0, 9L, 10L, 0L);
        rounds(0, 10L, 10L, 1L);
        rounds(0, 11L, 10L, 1L);
        rounds(0, 19L, 10L, 1L);
        rounds(0, 1L, 10L, 0L);
        rounds(0, 0L, 10L, 0L);
        rounds(0, -1L, 10L, -1L);
        rounds(0, -9L, 10L, -1L);
        rounds(0, -10L, 10L, -1L);
        rounds(0, -11L, 10L, -2L);
    }

    private static void roundedUp() {
        says("Terms", "1 up");
        rounds(1, 9L, 10L, 1L);
        rounds(1, 10L, 10L, 1L);
        rounds(1, 11L, 10L, 2L);
        rounds(1, 1L, 10L, 1L);
        rounds(1, 0L, 10L, 0L);
        rounds(1, -1L, 10L, 0L);
        rounds(1, -9L, 10L, 0L);
        rounds(1, -10L, 10L, -1L);
        rounds(1, -11L, 10L, -1L);
        rounds(1, -19L, 10L, -1L);
    }

    private static void roundedTowardsNought() {
        says("Terms", "2 towards 0");
        rounds(2, 9L, 10L, 0L);
        rounds(2, 10L, 10L, 1L);
        rounds(2, 11L, 10L, 1L);
        rounds(2, 19L, 10L, 1L);
        rounds(2, 0L, 10L, 0L);
        rounds(2, -1L, 10L, 0L);
        rounds(2, -9L, 10L, 0L);
        rounds(2, -10L, 10L, -1L);
        rounds(2, -19L, 10L, -1L);
        rounds(2, -20L, 10L, -2L);
    }

    private static void roundedToTheNearest() {
        says("Terms", "3 to the nearest, a half away from 0");
        rounds(3, 4L, 10L, 0L);
        rounds(3, 5L, 10L, 1L);
        rounds(3, 6L, 10L, 1L);
        rounds(3, 14L, 10L, 1L);
        rounds(3, 15L, 10L, 2L);
        rounds(3, 25L, 10L, 3L);
        rounds(3, 0L, 10L, 0L);
        rounds(3, -4L, 10L, 0L);
        rounds(3, -5L, 10L, -1L);
        rounds(3, -6L, 10L, -1L);
        rounds(3, -14L, 10L, -1L);
        rounds(3, -15L, 10L, -2L);
        rounds(3, -25L, 10L, -3L);
        // An odd divisor has no half: the last below it and the first above it.
        rounds(3, 5L, 11L, 0L);
        rounds(3, 6L, 11L, 1L);
        rounds(3, -5L, 11L, 0L);
        rounds(3, -6L, 11L, -1L);
        rounds(3, MAX / 2L, MAX, 0L);
        rounds(3, MAX / 2L + 1L, MAX, 1L);
        // A divisor of 2^63, whose half is 2^62.
        long half = 1L << 62;
        new Scene().register(6, half).givesRegister("2^62 / -2^63", 6, -1L, x -> x.share(6, 1L, MIN, 3));
        new Scene().register(6, half - 1L).givesRegister("(2^62 - 1) / -2^63", 6, 0L, x -> x.share(6, 1L, MIN, 3));
        new Scene().register(6, -half).givesRegister("-2^62 / -2^63", 6, 1L, x -> x.share(6, 1L, MIN, 3));
        new Scene().register(6, 1L - half).givesRegister("(1 - 2^62) / -2^63", 6, 0L, x -> x.share(6, 1L, MIN, 3));
    }

    /** Quotients between the last long and the first number beside it: the way alone decides. */
    private static void roundedOverTheEdge() {
        says("What it is", "shares by products of 128 bits, rounded in four ways");
        // (2^64 - 1) / 2 is 2^63 - 1/2, and 3 * third is 2^64 - 1.
        long third = 6148914691236517205L;
        new Scene().register(6, third).givesRegister("2^63 - 1/2, down", 6, MAX, x -> x.share(6, 3L, 2L, 0));
        new Scene().register(6, third).keeps("2^63 - 1/2, up", 1, x -> x.share(6, 3L, 2L, 1));
        new Scene().register(6, third).givesRegister("2^63 - 1/2, towards 0", 6, MAX, x -> x.share(6, 3L, 2L, 2));
        new Scene().register(6, third).keeps("2^63 - 1/2, to the nearest", 1, x -> x.share(6, 3L, 2L, 3));
        // (2^64 + 1) / 2 is 2^63 + 1/2, and 274177 * factor is 2^64 + 1.
        long factor = 67280421310721L;
        new Scene().register(6, factor).keeps("-2^63 - 1/2, down", 2, x -> x.share(6, -274177L, 2L, 0));
        new Scene().register(6, factor).givesRegister("-2^63 - 1/2, up", 6, MIN, x -> x.share(6, -274177L, 2L, 1));
        new Scene().register(6, factor)
                .givesRegister("-2^63 - 1/2, towards 0", 6, MIN, x -> x.share(6, -274177L, 2L, 2));
        new Scene().register(6, factor).keeps("-2^63 - 1/2, to the nearest", 2, x -> x.share(6, -274177L, 2L, 3));
        // (2^65 + 1) / 4 is 2^63 + 1/4, nearer to 2^63; 11 * eleventh is 2^65 + 1.
        long eleventh = 3353953467947191203L;
        new Scene().register(6, eleventh).keeps("-2^63 - 1/4, down", 2, x -> x.share(6, -11L, 4L, 0));
        new Scene().register(6, eleventh)
                .givesRegister("-2^63 - 1/4, to the nearest", 6, MIN, x -> x.share(6, -11L, 4L, 3));
        new Scene().register(6, eleventh).keeps("2^63 + 1/4, to the nearest", 1, x -> x.share(6, 11L, 4L, 3));
    }

    // --- Refused calls ---

    private static void noSuchRegister() {
        says("Terms", "so it is if there is no such register");
        refusedAt(NO_REGISTERS, "set", 0, (x, r) -> bit(x.set(r, 5L)));
        refusedAt(NO_REGISTERS, "add", -1, (x, r) -> x.add(r, 5L));
        refusedAt(NO_REGISTERS, "subtract", -1, (x, r) -> x.subtract(r, 5L));
        refusedAt(NO_REGISTERS, "times", -1, (x, r) -> x.times(r, 5L));
        refusedAt(NO_REGISTERS, "share", -1, (x, r) -> x.share(r, 5L, 2L, 0));
        refusedAt(NO_REGISTERS, "enter", -1, (x, r) -> x.enter(1, r, 5L));
        refusedAt(NO_REGISTERS, "split", -1, (x, r) -> x.split(1, 5L, r));
        refusedAt(NO_REGISTERS, "take", -1, (x, r) -> x.take(1, r));
        for (int place : NO_REGISTERS) {
            new Scene().tally(1, big(5L)).keeps("take of 5 at " + place, -1, x -> x.take(1, place));
        }
    }

    private static void noSuchTally() {
        says("Terms", "so it is if there is no such .. tally");
        refusedAt(NO_TALLIES, "enter", -1, (x, t) -> x.enter(t, 1, 5L));
        refusedAt(NO_TALLIES, "merge into", -1, (x, t) -> x.merge(t, 1));
        refusedAt(NO_TALLIES, "merge of", -1, (x, t) -> x.merge(1, t));
        refusedAt(NO_TALLIES, "merge of none with itself", -1, (x, t) -> x.merge(t, t));
        refusedAt(NO_TALLIES, "split", -1, (x, t) -> x.split(t, 5L, 1));
        refusedAt(NO_TALLIES, "take", -1, (x, t) -> x.take(t, 1));
        refusedAt(NO_TALLIES, "clear", 0, (x, t) -> bit(x.clear(t)));
        refusedAt(NO_TALLIES, "enter of none in none", -1, (x, t) -> x.enter(t, 8, 5L));
        refusedAt(NO_TALLIES, "split of none in none", -1, (x, t) -> x.split(t, 5L, 8));
        refusedAt(NO_TALLIES, "take of none in none", -1, (x, t) -> x.take(t, 8));
    }

    private static void noSuchWay() {
        says("Terms", "so it is if there is no such .. way");
        refusedAt(NO_WAYS, "share", -1, (x, way) -> x.share(0, 5L, 2L, way));
        refusedAt(NO_WAYS, "share without a rest", -1, (x, way) -> x.share(0, 4L, 2L, way));
        refusedAt(NO_WAYS, "share of none", -1, (x, way) -> x.share(8, 5L, 2L, way));
        long had = new Scene().registers[0];
        for (int way = 0; way < 4; way++) {
            int w = way;
            new Scene().givesRegister("share in way " + w, 0, had * 2L, x -> x.share(0, 4L, 2L, w));
        }
    }

    private static void refusedBeforeFaulted() {
        says("Terms", "A call that is refused (-1, or false) changes nothing");
        refusedAt(NO_WAYS, "share by 0", -1, (x, way) -> x.share(0, 5L, 0L, way));
        refusedAt(NO_REGISTERS, "share by 0", -1, (x, r) -> x.share(r, 5L, 0L, 0));
        refusedAt(NO_REGISTERS, "split by 0 into", -1, (x, r) -> x.split(1, 0L, r));
        refusedAt(NO_TALLIES, "split by 0 of", -1, (x, t) -> x.split(t, 0L, 1));
        for (int way : NO_WAYS) {
            new Scene().register(0, MAX).keeps("MAX * 2 / 1 in way " + way, -1, x -> x.share(0, 2L, 1L, way));
        }
        for (int place : NO_TALLIES) {
            new Scene().register(0, MAX).keeps("MAX * MAX into " + place, -1, x -> x.enter(place, 0, MAX));
            new Scene().tally(0, FULL).keeps("merge of full into " + place, -1, x -> x.merge(place, 0));
        }
        for (int place : NO_REGISTERS) {
            new Scene().tally(0, FULL).keeps("take of full into " + place, -1, x -> x.take(0, place));
        }
    }

    // --- Promises 2 to 7 ---

    private static void setRefuses() {
        says("Promise 2: set", "Register r becomes v: true; false, refused, if there is none");
        for (long v : new long[] {0L, 1L, MIN, MAX}) {
            refusedAt(NO_REGISTERS, "set to " + v, 0, (x, r) -> bit(x.set(r, v)));
        }
        for (int r : new int[] {0, 7}) {
            Scene s = new Scene();
            due("set(" + r + ", 0)", bit(s.desk.set(r, 0L)), 1L);
            s.registers[r] = 0L;
            s.look("set(" + r + ", 0)");
        }
    }

    private static void getOfNone() {
        says("Promise 3: get", "Register r; 0 if there is none");
        refusedAt(NO_REGISTERS, "get", 0, (x, r) -> x.get(r));
        Scene s = new Scene().register(0, MIN).register(7, MAX);
        due("get(0)", s.desk.get(0), MIN);
        due("get(7)", s.desk.get(7), MAX);
        s.look("get");
    }

    private static void addAtItsEdges() {
        says("Promise 4: add", "Register r becomes itself + v. The fault, or 0; -1, refused");
        new Scene().register(2, MAX).givesRegister("MAX + 0", 2, MAX, x -> x.add(2, 0L));
        new Scene().register(2, MIN).givesRegister("MIN + 0", 2, MIN, x -> x.add(2, 0L));
        new Scene().register(2, 0L).givesRegister("0 + MAX", 2, MAX, x -> x.add(2, MAX));
        new Scene().register(2, 1L).keeps("1 + MAX", 1, x -> x.add(2, MAX));
        new Scene().register(2, 0L).givesRegister("0 + MIN", 2, MIN, x -> x.add(2, MIN));
        new Scene().register(2, -1L).keeps("-1 + MIN", 2, x -> x.add(2, MIN));
        new Scene().register(2, MIN).givesRegister("MIN + MAX", 2, -1L, x -> x.add(2, MAX));
        new Scene().register(2, MAX).givesRegister("MAX + MIN", 2, -1L, x -> x.add(2, MIN));
        new Scene().register(2, -1L).givesRegister("-1 + 1", 2, 0L, x -> x.add(2, 1L));
    }

    private static void subtractAtItsEdges() {
        says("Promise 5: subtract", "Register r becomes itself - v");
        new Scene().register(2, MAX).givesRegister("MAX - 0", 2, MAX, x -> x.subtract(2, 0L));
        new Scene().register(2, MIN).givesRegister("MIN - 0", 2, MIN, x -> x.subtract(2, 0L));
        new Scene().register(2, -1L).givesRegister("-1 - MIN", 2, MAX, x -> x.subtract(2, MIN));
        new Scene().register(2, 0L).keeps("0 - MIN", 1, x -> x.subtract(2, MIN));
        new Scene().register(2, -1L).givesRegister("-1 - MAX", 2, MIN, x -> x.subtract(2, MAX));
        new Scene().register(2, -2L).keeps("-2 - MAX", 2, x -> x.subtract(2, MAX));
        new Scene().register(2, MIN).givesRegister("MIN - MIN", 2, 0L, x -> x.subtract(2, MIN));
        new Scene().register(2, MAX).givesRegister("MAX - MAX", 2, 0L, x -> x.subtract(2, MAX));
        new Scene().register(2, 0L).givesRegister("0 - MAX", 2, -MAX, x -> x.subtract(2, MAX));
    }

    private static void timesAtItsEdges() {
        says("Promise 6: times", "Register r becomes itself * v");
        new Scene().register(2, MIN).givesRegister("MIN * 1", 2, MIN, x -> x.times(2, 1L));
        new Scene().register(2, MIN).keeps("MIN * -1", 1, x -> x.times(2, -1L));
        new Scene().register(2, -1L).keeps("-1 * MIN", 1, x -> x.times(2, MIN));
        new Scene().register(2, MIN + 1L).givesRegister("(MIN + 1) * -1", 2, MAX, x -> x.times(2, -1L));
        new Scene().register(2, MAX).givesRegister("MAX * -1", 2, -MAX, x -> x.times(2, -1L));
        new Scene().register(2, MIN).givesRegister("MIN * 0", 2, 0L, x -> x.times(2, 0L));
        new Scene().register(2, 0L).givesRegister("0 * MIN", 2, 0L, x -> x.times(2, MIN));
        // The greatest square that is a long, and the one behind it.
        new Scene().register(2, 3037000499L).givesRegister("3037000499^2", 2, 9223372030926249001L,
                x -> x.times(2, 3037000499L));
        new Scene().register(2, 3037000500L).keeps("3037000500^2", 1, x -> x.times(2, 3037000500L));
        new Scene().register(2, 3037000500L).keeps("-(3037000500^2)", 2, x -> x.times(2, -3037000500L));
        new Scene().register(2, 1L << 32).givesRegister("2^32 * -2^31", 2, MIN, x -> x.times(2, -(1L << 31)));
        new Scene().register(2, 1L << 32).keeps("2^32 * 2^31", 1, x -> x.times(2, 1L << 31));
    }

    private static void shareAtItsEdges() {
        says("Promise 7: share", "Register r becomes itself * b / c, rounded in a way");
        for (int way = 0; way < 4; way++) {
            int w = way;
            new Scene().register(2, MIN).keeps("MIN * 1 / -1", 1, x -> x.share(2, 1L, -1L, w));
            new Scene().register(2, MIN).keeps("MIN * -1 / 1", 1, x -> x.share(2, -1L, 1L, w));
            new Scene().register(2, MIN).givesRegister("MIN * -1 / -1", 2, MIN, x -> x.share(2, -1L, -1L, w));
            new Scene().register(2, MIN).givesRegister("MIN * 1 / MIN", 2, 1L, x -> x.share(2, 1L, MIN, w));
            new Scene().register(2, MAX).givesRegister("MAX * 0 / MIN", 2, 0L, x -> x.share(2, 0L, MIN, w));
            new Scene().register(2, 0L).givesRegister("0 * MAX / -1", 2, 0L, x -> x.share(2, MAX, -1L, w));
            new Scene().register(2, E18).givesRegister("10^18 * 10^18 / 10^18", 2, E18, x -> x.share(2, E18, E18, w));
            new Scene().register(2, MAX).givesRegister("MAX * MIN / MAX", 2, MIN, x -> x.share(2, MIN, MAX, w));
            new Scene().register(2, MAX).keeps("MAX * MIN / -MAX", 1, x -> x.share(2, MIN, -MAX, w));
        }
    }

    // --- Promises 8 to 12 ---

    private static void enterAtItsEdges() {
        says("Promise 8: enter", "Tally t becomes itself + register r * v");
        new Scene().tally(0, FULL).register(1, MAX).givesTally("full + MAX * 0", 0, FULL, x -> x.enter(0, 1, 0L));
        new Scene().tally(0, FULL).register(1, 0L).givesTally("full + 0 * MIN", 0, FULL, x -> x.enter(0, 1, MIN));
        new Scene().tally(0, FULL).register(1, -1L)
                .givesTally("full - 1", 0, FULL.subtract(ONE), x -> x.enter(0, 1, 1L));
        new Scene().tally(0, FULL).register(1, -1L).keeps("full + -1 * -1", 1, x -> x.enter(0, 1, -1L));
        new Scene().tally(0, FULL.negate()).register(1, -1L).keeps("-full - 1", 2, x -> x.enter(0, 1, 1L));
        new Scene().tally(0, ONE).register(1, -1L).givesTally("1 - 1", 0, BigInteger.ZERO, x -> x.enter(0, 1, 1L));
        new Scene().tally(0, BigInteger.ZERO).register(1, MIN)
                .givesTally("0 + MIN * -1", 0, ABOVE_LONG, x -> x.enter(0, 1, -1L));
        new Scene().tally(0, BigInteger.ZERO).register(1, MIN)
                .givesTally("0 + MIN * 1", 0, ABOVE_LONG.negate(), x -> x.enter(0, 1, 1L));
        // From one end to the other: 2 * (10^36 - 1) is the greatest step that a tally can bear.
        long step = 2L * (E18 - 1L);
        new Scene().tally(0, FULL.negate()).register(1, step)
                .givesTally("-full + 2 * full", 0, FULL, x -> x.enter(0, 1, E18 + 1L));
        new Scene().tally(0, FULL).register(1, step)
                .givesTally("full - 2 * full", 0, FULL.negate(), x -> x.enter(0, 1, -E18 - 1L));
        new Scene().tally(0, ONE.subtract(FULL)).register(1, step)
                .keeps("-full + 1 + 2 * full", 1, x -> x.enter(0, 1, E18 + 1L));
        new Scene().tally(0, FULL.subtract(ONE)).register(1, step)
                .keeps("full - 1 - 2 * full", 2, x -> x.enter(0, 1, -E18 - 1L));
    }

    private static void mergeAtItsEdges() {
        says("Promise 9: merge", "Tally t becomes itself + tally u");
        BigInteger half = FULL.shiftRight(1);
        new Scene().tally(3, FULL).tally(0, FULL.negate())
                .givesTally("full + -full", 3, BigInteger.ZERO, x -> x.merge(3, 0));
        new Scene().tally(3, FULL).tally(0, BigInteger.ZERO).givesTally("full + 0", 3, FULL, x -> x.merge(3, 0));
        new Scene().tally(3, BigInteger.ZERO).tally(0, FULL).givesTally("0 + full", 3, FULL, x -> x.merge(3, 0));
        new Scene().tally(3, ONE).tally(0, FULL).keeps("1 + full", 1, x -> x.merge(3, 0));
        new Scene().tally(3, ONE.negate()).tally(0, FULL.negate()).keeps("-1 + -full", 2, x -> x.merge(3, 0));
        new Scene().tally(3, half).givesTally("the greatest with itself", 3, FULL.subtract(ONE), x -> x.merge(3, 3));
        new Scene().tally(3, half.add(ONE)).keeps("one more with itself", 1, x -> x.merge(3, 3));
        new Scene().tally(3, half.negate())
                .givesTally("the least with itself", 3, ONE.subtract(FULL), x -> x.merge(3, 3));
        new Scene().tally(3, half.negate().subtract(ONE)).keeps("one less with itself", 2, x -> x.merge(3, 3));
    }

    private static void splitByNought() {
        says("Promise 10: split", "3 if d is 0");
        new Scene().keeps("split by 0", 3, x -> x.split(1, 0L, 2));
        new Scene().tally(1, FULL).keeps("split of full by 0", 3, x -> x.split(1, 0L, 2));
        new Scene().tally(1, BigInteger.ZERO).keeps("split of 0 by 0", 3, x -> x.split(1, 0L, 2));
        splits(FULL, 1L, FULL, 0L);
        splits(FULL.negate(), 1L, FULL.negate(), 0L);
    }

    private static void splits(BigInteger before, long d, BigInteger after, long rest) {
        Scene s = new Scene().tally(1, before);
        s.registers[2] = rest;
        s.givesTally("split of " + before + " by " + d, 1, after, x -> x.split(1, d, 2));
    }

    private static void splitOutsideItsDivisors() {
        says("Promise 10: split", "-1, refused, also if d is below 0 or greater than 1000000000000000000");
        for (long d : new long[] {-1L, -2L, -E18, MIN, E18 + 1L, 2L * E18, MAX}) {
            new Scene().keeps("split by " + d, -1, x -> x.split(1, d, 2));
            new Scene().tally(1, BigInteger.ZERO).keeps("split of 0 by " + d, -1, x -> x.split(1, d, 2));
        }
        splits(FULL, E18, big(E18 - 1L), E18 - 1L);
        splits(FULL, E18 - 1L, big(E18 + 1L), 0L);
        splits(FULL.negate(), E18, big(1L - E18), 1L - E18);
        splits(big(17L), 1L, big(17L), 0L);
    }

    private static void splitLeavesOver() {
        says("Promise 10: split",
                "rounded towards 0, and register r what is left over, which has the sign of the tally");
        for (long sign : new long[] {1L, -1L}) {
            BigInteger turn = big(sign);
            splits(turn.multiply(big(9L)), 10L, BigInteger.ZERO, sign * 9L);
            splits(turn.multiply(big(10L)), 10L, turn, 0L);
            splits(turn.multiply(big(11L)), 10L, turn, sign);
            splits(turn.multiply(big(19L)), 10L, turn, sign * 9L);
            splits(turn.multiply(big(E18 - 1L)), E18, BigInteger.ZERO, sign * (E18 - 1L));
            splits(turn.multiply(big(E18)), E18, turn, 0L);
            splits(turn.multiply(WORD), 2L, turn.multiply(ABOVE_LONG), 0L);
            splits(turn.multiply(WORD.subtract(ONE)), 2L, turn.multiply(ABOVE_LONG.subtract(ONE)), sign);
            splits(turn.multiply(FULL), 2L, turn.multiply(FULL.shiftRight(1)), sign);
        }
        splits(BigInteger.ZERO, 1L, BigInteger.ZERO, 0L);
        splits(BigInteger.ZERO, E18, BigInteger.ZERO, 0L);
    }

    private static void takeAtItsEdges() {
        says("Promise 11: take", "Register r becomes tally t");
        for (long v : new long[] {0L, 1L, -1L, MAX, MAX - 1L, MIN, MIN + 1L}) {
            new Scene().tally(2, big(v)).givesRegister("take of " + v, 7, v, x -> x.take(2, 7));
        }
        new Scene().tally(2, big(MAX).add(ONE)).keeps("take of MAX + 1", 1, x -> x.take(2, 7));
        new Scene().tally(2, big(MIN).subtract(ONE)).keeps("take of MIN - 1", 2, x -> x.take(2, 7));
    }

    private static void clearAtItsEdges() {
        says("Promise 12: clear", "Tally t becomes 0: true; false, refused");
        for (BigInteger v : new BigInteger[] {FULL, FULL.negate(), BigInteger.ZERO, ONE.negate(), WORD}) {
            for (int t = 0; t < 4; t++) {
                Scene s = new Scene().tally(t, v);
                due("clear(" + t + ")", bit(s.desk.clear(t)), 1L);
                s.tallies[t] = BigInteger.ZERO;
                s.look("clear(" + t + ") of " + v);
            }
        }
        refusedAt(NO_TALLIES, "clear", 0, (x, t) -> bit(x.clear(t)));
    }

    // --- Promises 13 to 15 ---

    private static void compareOrders() {
        says("Promise 13: compare", "-1 if tally t is less than tally u, 0 if they are equal, 1 if it is greater");
        BigInteger[] pivots = {
            FULL.subtract(ONE), WORD, ABOVE_LONG, ONE, BigInteger.ZERO, ONE.negate(), ABOVE_LONG.negate(),
            WORD.negate(), ONE.subtract(FULL)};
        for (BigInteger pivot : pivots) {
            new Scene().tally(0, pivot).tally(3, pivot.add(ONE))
                    .keeps(pivot + " and one more", -1, x -> x.compare(0, 3));
            new Scene().tally(0, pivot).tally(3, pivot).keeps(pivot + " twice", 0, x -> x.compare(0, 3));
            new Scene().tally(0, pivot).tally(3, pivot.subtract(ONE))
                    .keeps(pivot + " and one less", 1, x -> x.compare(0, 3));
            new Scene().tally(0, pivot).keeps(pivot + " with itself", 0, x -> x.compare(0, 0));
        }
        new Scene().tally(1, FULL).tally(2, FULL.negate()).keeps("full and -full", 1, x -> x.compare(1, 2));
        new Scene().tally(1, FULL).tally(2, FULL.negate()).keeps("-full and full", -1, x -> x.compare(2, 1));
        new Scene().tally(1, WORD).tally(2, ONE).keeps("2^64 and 1", 1, x -> x.compare(1, 2));
        new Scene().tally(1, WORD.negate()).tally(2, ONE).keeps("-2^64 and 1", -1, x -> x.compare(1, 2));
    }

    private static void compareOfNone() {
        says("Promise 13: compare", "-2 if one of them is none");
        refusedAt(NO_TALLIES, "compare of none", -2, (x, t) -> x.compare(t, 0));
        refusedAt(NO_TALLIES, "compare with none", -2, (x, t) -> x.compare(3, t));
        refusedAt(NO_TALLIES, "compare of none with itself", -2, (x, t) -> x.compare(t, t));
        new Scene().tally(0, ONE).tally(3, ONE).keeps("compare(0, 3)", 0, x -> x.compare(0, 3));
        new Scene().tally(0, ONE).tally(3, ONE).keeps("compare(3, 0)", 0, x -> x.compare(3, 0));
    }

    private static void digitsCounts() {
        says("Promise 14: digits", "How many digits tally t has (0 has one), below 0 if it is below 0");
        for (int t = 0; t < 4; t++) {
            int place = t;
            new Scene().tally(t, BigInteger.ZERO).keeps("digits of 0", 1, x -> x.digits(place));
            new Scene().tally(t, ONE).keeps("digits of 1", 1, x -> x.digits(place));
            new Scene().tally(t, ONE.negate()).keeps("digits of -1", -1, x -> x.digits(place));
            new Scene().tally(t, FULL).keeps("digits of full", 36, x -> x.digits(place));
            new Scene().tally(t, FULL.negate()).keeps("digits of -full", -36, x -> x.digits(place));
        }
        for (int n = 1; n < 36; n++) {
            BigInteger first = BigInteger.TEN.pow(n);
            BigInteger last = first.subtract(ONE);
            new Scene().tally(2, last).keeps("digits of " + last, n, x -> x.digits(2));
            new Scene().tally(2, first).keeps("digits of " + first, n + 1, x -> x.digits(2));
            new Scene().tally(2, last.negate()).keeps("digits of -" + last, -n, x -> x.digits(2));
            new Scene().tally(2, first.negate()).keeps("digits of -" + first, -n - 1, x -> x.digits(2));
        }
    }

    private static void digitsOfNone() {
        says("Promise 14: digits", "0 if there is none");
        refusedAt(NO_TALLIES, "digits", 0, (x, t) -> x.digits(t));
        new Scene().tally(0, FULL).keeps("digits(0)", 36, x -> x.digits(0));
        new Scene().tally(3, FULL).keeps("digits(3)", 36, x -> x.digits(3));
    }

    private static void digitTells() {
        says("Promise 15: digit", "Digit k of tally t, from 0, the lowest one, on");
        String text = "123456789098765432101234567890987654";
        for (int k = 0; k < 36; k++) {
            int place = k;
            int want = text.charAt(35 - k) - '0';
            new Scene().tally(1, new BigInteger(text)).keeps("digit " + k, want, x -> x.digit(1, place));
            new Scene().tally(1, new BigInteger("-" + text))
                    .keeps("digit " + k + " below 0", want, x -> x.digit(1, place));
        }
    }

    private static void digitWhereItHasNone() {
        says("Promise 15: digit", "0 where it has none");
        for (int n = 1; n < 36; n++) {
            int behind = n;
            BigInteger nines = BigInteger.TEN.pow(n).subtract(ONE);
            for (BigInteger v : new BigInteger[] {nines, nines.negate()}) {
                new Scene().tally(0, v).keeps("the highest digit of " + v, 9, x -> x.digit(0, behind - 1));
                new Scene().tally(0, v).keeps("the digit behind it in " + v, 0, x -> x.digit(0, behind));
                new Scene().tally(0, v).keeps("digit 35 of " + v, 0, x -> x.digit(0, 35));
            }
        }
        new Scene().tally(0, BigInteger.ZERO).keeps("digit 0 of 0", 0, x -> x.digit(0, 0));
        new Scene().tally(0, FULL).keeps("digit 35 of full", 9, x -> x.digit(0, 35));
    }

    private static void digitOfNone() {
        says("Promise 15: digit", "-1 if there is no such tally, or k is not 0 .. 35");
        refusedAt(NO_TALLIES, "digit 0", -1, (x, t) -> x.digit(t, 0));
        refusedAt(NO_TALLIES, "digit 35", -1, (x, t) -> x.digit(t, 35));
        refusedAt(NO_TALLIES, "digit 36", -1, (x, t) -> x.digit(t, 36));
        for (int t = 0; t < 4; t++) {
            int place = t;
            refusedAt(NO_PLACES, "digit of " + t, -1, (x, k) -> x.digit(place, k));
            new Scene().tally(t, FULL).keeps("digit(" + t + ", 0)", 9, x -> x.digit(place, 0));
            new Scene().tally(t, FULL).keeps("digit(" + t + ", 35)", 9, x -> x.digit(place, 35));
            new Scene().tally(t, FULL).keeps("digit(" + t + ", 36)", -1, x -> x.digit(place, 36));
        }
    }
}
