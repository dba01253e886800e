/**
 * The sentences of the document's terms that name a boundary case: a test of its own for each, at the boundary and one
 * step beyond it on either side as far as 24 gates can come there. The circuits that come to one meter exactly were
 * found by a search; what their gates are stands at Pair.build.
 */
public final class TermsBoundariesTest {
    private static final int NONE = LevelledRing.NONE;
    private static final int[] PRIMES = {32369, 29921, 28289, 26113};
    private static final long[] MODULI = {32369L, 968512849L, 27398259985361L, 715450762997731793L};

    /** 136 * ((q0 - 1) + .. + (ql - 1)), for l = 0 .. 3. */
    private static final long[] SWITCHING = {4402048, 8471168, 12318336, 15869568};

    /** Seeds of the constructor whose secrets are all -1, all 0 and all 1, and seeds of inputs whose E are so. */
    private static final int[] UNIFORM_SECRETS = {17026, 2256, 5809};
    private static final int[] UNIFORM_ERRORS = {6769, 4370, 914};

    /** The circuits whose last gate, at level 3, 2 or 1, has a meter that is lowered to just the one of the name. */
    private static final String LOWERED_TO_1000_FROM_3 =
        "I S0,0 S1,0 S2,2 S3,3 S4,4 S5,0 S3,5 P7,7 S5,6 S9,9 S10,10 S11,11 S12,12 S13,13 S14,14 S15,7 S16,16 S17,17"
            + " S18,2 S19,8";
    private static final String LOWERED_TO_1001_FROM_3 =
        "I S0,0 S1,1 S2,2 S3,1 S4,4 S5,4 P6,6 S2,6 S8,8 S9,6 S10,10 S11,11 S12,12 S13,13 S14,14 S15,0 S16,6 S17,17"
            + " S18,18 S19,7";
    private static final String LOWERED_TO_1000_FROM_2 =
        "I P0,0 S0,1 P2,0 L2 S4,4 S5,0 S6,5 S1,7 S8,0 S9,9 S10,10 S11,11 S8,12 S13,13 S14,14 S15,8 S16,12 S17,17"
            + " S18,3 S19,19 S20,6 S21,11";
    private static final String LOWERED_TO_1001_FROM_2 =
        "I L0 P0,0 L2 S3,3 S4,4 S5,5 S6,6 S7,7 P1,1 S1,8 S10,8 S11,11 S12,1 S13,13 S14,1 S15,15 S16,1 S17,17 S18,9"
            + " S19,19";
    private static final String LOWERED_TO_16184 =
        "I L0 S1,1 P2,1 S3,3 P3,4 L4 L2 P6,6 S8,8 S5,7 S10,8 S11,11 S12,12 S13,13 S14,6 S15,7 S16,16 S17,7 S18,9";
    private static final String LOWERED_TO_16185 =
        "I L0 L1 P0,1 P2,2 S2,2 S3,2 P5,3 P5,5 S4,6 S9,9 S10,8 S11,11 S12,12 S13,6 S14,7 S15,15 S16,4 S17,8 S18,18";

    /** A circuit whose last gate has at level 0 the greatest meter that is not too great. */
    private static final String GREATEST_AT_LEVEL_0 =
        "I P0,0 P0,1 P2,2 S3,3 S4,1 L5 S5,5 S7,7 S8,6 S8,7 S9,10 S11,11";

    private final Checks checks = new Checks("TermsBoundariesTest");

    public static void main(String[] args) {
        new TermsBoundariesTest().checkAll();
    }

    private void checkAll() {
        checks.sentence("An object is used for at most 512 calls", this::allOf512Calls);
        checks.sentence("in products x^8 is -1", this::powersFrom8On);
        checks.sentence("modulo m is from 0 to m - 1 (also of a negative one)", this::moduloOfNegatives);
        checks.sentence("the CENTRED form is from -(m - 1) / 2 to (m - 1) / 2", this::centredForm);
        checks.sentence("as ints, which wrap, and is z >>> 8 then", this::drawingWraps);
        checks.sentence("SMALL: one draw each, modulo 3, less 1", this::smallDraws);
        checks.sentence("UNIFORM: the k-th modulo qk", this::uniformDraws);
        checks.sentence("the SECRET S is SMALL", this::uniformSecrets);
        checks.sentence("GATES are numbered from 0 on, at most 24", this::atMost24Gates);
        checks.sentence("TOO GREAT when it is more than (Q(l) - 1) / 2, at level 0", this::tooGreatAtLevel0);
        checks.sentence("TOO GREAT when it is more than (Q(l) - 1) / 2, at level 1", this::tooGreatAtLevel1);
        checks.sentence("TOO GREAT when it is more than (Q(l) - 1) / 2, at level 2", this::tooGreatAtLevel2);
        checks.sentence("TOO GREAT when it is more than (Q(l) - 1) / 2, at level 3", this::neverTooGreatAtLevel3);
        checks.sentence("INPUT: level 3, meter 33", this::inputOfTheGreatestNoise);
        checks.sentence("SUM: the one of the higher level is LOWERED until the levels are equal", this::sumLowers);
        checks.sentence("PRODUCT: as long as the levels are not equal", this::productMakesLevelsEqual);
        checks.sentence("PRODUCT: more than 1000, at level 3", this::loudAtLevel3);
        checks.sentence("PRODUCT: more than 1000, at level 2", this::loudAtLevel2);
        checks.sentence("PRODUCT: more than 1000, at level 1", this::loudAtLevel1);
        checks.sentence("PRODUCT: more than 1000 after a lowering", this::loudAfterALowering);
        checks.sentence("PRODUCT: as long as the level is above 0", this::loudAtLevel0);
        checks.sentence("PRODUCT: a meter which does not wrap", this::greatestProductMeters);
        checks.sentence("SHIFT: times x^k", this::shiftsAroundTheEnd);
        checks.sentence("LOWERING: k the number from -8 to 8", this::loweringAtTheEdgesOfK);
        checks.sentence("LOWERING: modulo Q(l - 1)", this::loweringAroundTheModulus);
        checks.sentence("LOWERING: divided by ql, rounded down, and 77 more", this::loweredMetersAreRoundedDown);
        checks.sentence("EXHAUSTED: lowered for it gets a meter that is too great", this::exhaustedByALowering);
        checks.sentence("EXHAUSTED: the lowered meter and its own", this::exhaustedByASumOfALoweredValue);
        checks.sentence("EXHAUSTED: the meter of its own value would be too great", this::exhaustedByItsOwnMeter);
        checks.sentence("EXHAUSTED: LOWERED of a value of level 0", this::exhaustedAtLevel0);
        checks.sentence("NOISE: the greatest of the coefficients without their signs", this::noiseWithoutSigns);
        checks.sentence("DECRYPTED is V modulo 17", this::decryptedOfNegatives);
        checks.finish();
    }

    private Pair pair(String name) {
        return new Pair(checks, name, 2026);
    }

    /** A pair with the gates of a circuit, whose message has all kinds of coefficients. */
    private Pair circuit(String gates) {
        Pair p = pair(gates);
        p.message(16, 1, 0, 9, 8, 15, 2, 16);
        p.build(gates);
        return p;
    }

    private static int last(Pair p) {
        return p.ring.count() - 1;
    }

    private void hasRoom(String gates, int level, long meter) {
        Pair p = circuit(gates);
        p.runsThrough();
        p.valueIs(last(p), level, meter);
    }

    /** The last gate is exhausted, while all the others have their values. */
    private void hasNoRoom(String gates) {
        Pair p = circuit(gates);
        p.isExhausted(last(p));
        checks.yes("the gate before has a value", p.level(last(p) - 1) >= 0);
    }

    /** The same circuit with a difference as its last gate. */
    private static String asDifference(String gates) {
        int at = gates.lastIndexOf('S');
        return gates.substring(0, at) + 'D' + gates.substring(at + 1);
    }

    private void allOf512Calls() {
        LevelledRing ring = new LevelledRing(1);
        ring.put(7, 5);
        ring.input(1);
        ring.sum(0, 0);
        ring.run();
        // The calls 5 to 510.
        for (int twoCalls = 0; twoCalls < 253; twoCalls++) {
            ring.cut(1);
            ring.sum(0, 0);
        }
        checks.same("run() as call 511", ring.run(), NONE);
        checks.same("decrypted(1, 7) as call 512", ring.decrypted(1, 7), 10);
    }

    private void powersFrom8On() {
        Pair p = pair("x^7 times 1, x and x^7");
        int one = p.exact(1, 0, 0, 0, 0, 0, 0, 0);
        int x = p.shift(one, 1);
        int x7 = p.exact(0, 0, 0, 0, 0, 0, 0, 1);
        int to7 = p.product(x7, one);
        int to8 = p.product(x7, x);
        int to8Again = p.product(x, x7);
        int to14 = p.product(x7, x7);
        p.runsThrough();
        p.plainIs(to7, 0, 0, 0, 0, 0, 0, 0, 1);
        p.isExactly(to7, 3, 0, 0, 0, 0, 0, 0, 0, 1);
        p.plainIs(to8, 16, 0, 0, 0, 0, 0, 0, 0);
        p.isExactly(to8, 3, -1, 0, 0, 0, 0, 0, 0, 0);
        p.isExactly(to8Again, 3, -1, 0, 0, 0, 0, 0, 0, 0);
        p.plainIs(to14, 0, 0, 0, 0, 0, 0, 16, 0);
        p.isExactly(to14, 3, 0, 0, 0, 0, 0, 0, -1, 0);
    }

    private void moduloOfNegatives() {
        for (int level = 0; level <= 3; level++) {
            Pair p = pair("0 less 1 at level " + level);
            int one = p.loweredTo(level, p.exact(0, 0, 1, 0, 0, 0, 0, 8));
            int zero = p.difference(one, one);
            int minus = p.difference(zero, one);
            int all = p.sum(minus, one);
            int twice = p.sum(minus, minus);
            int turnedZero = p.shift(zero, 8);
            int turnedMinus = p.shift(minus, 8);
            p.runsThrough();
            p.isExactly(one, level, 0, 0, 1, 0, 0, 0, 0, 8);
            p.isExactly(zero, level, 0, 0, 0, 0, 0, 0, 0, 0);
            checks.same("0 less 1", p.part(minus, 0, 2), MODULI[level] - 1);
            p.isExactly(minus, level, 0, 0, -1, 0, 0, 0, 0, -8);
            p.plainIs(minus, 0, 0, 16, 0, 0, 0, 0, 9);
            p.isExactly(all, level, 0, 0, 0, 0, 0, 0, 0, 0);
            p.plainIs(all, 0, 0, 0, 0, 0, 0, 0, 0);
            p.isExactly(twice, level, 0, 0, -2, 0, 0, 0, 0, -16);
            p.plainIs(twice, 0, 0, 15, 0, 0, 0, 0, 1);
            p.isExactly(turnedZero, level, 0, 0, 0, 0, 0, 0, 0, 0);
            p.plainIs(turnedZero, 0, 0, 0, 0, 0, 0, 0, 0);
            p.isExactly(turnedMinus, level, 0, 0, 1, 0, 0, 0, 0, 8);
        }
    }

    /**
     * Comes to h = (ql - 1) / 2, which is a multiple of 17: lowered, h and -h become 0 and the next numbers beyond
     * them 1 and -1, while the numbers before them are made multiples of 17 the other way.
     */
    private void centredForm() {
        halfOfAPrime(3, 13056, 3, "S2,2 S3,3 S4,4 S5,5 S6,2 S7,7 S8,8 S9,9 S10,10 S11,11 S12,12 S13,13 S14,14");
        halfOfAPrime(2, 14144, 8,
            "L2 S3,3 S4,3 S5,5 S6,6 S7,3 S8,8 S9,9 S10,10 S11,11 S12,8 S13,13 S14,14 S15,15");
        halfOfAPrime(1, 14960, 5,
            "L2 L3 S4,4 S5,5 S6,4 S7,7 S8,4 S9,9 S10,10 S11,11 S12,12 S13,9 S14,14 S15,15 S16,16 S17,17");
    }

    private void halfOfAPrime(int level, int half, int start, String multiples) {
        checks.same("half of a prime", 2 * half + 1, PRIMES[level]);
        Pair p = pair("about half of q" + level);
        int n = start;
        p.exact(n, n, n, n, -n, -n, -n, -n);
        int halves = p.build(multiples);
        int steps = p.exact(-1, 0, 1, 2, 1, 0, -1, -2);
        int g = p.sum(halves, steps);
        int lowered = p.lowered(g);
        p.runsThrough();
        long h = half;
        p.isExactly(g, level, h - 1, h, h + 1, h + 2, 1 - h, -h, -h - 1, -h - 2);
        p.isExactly(lowered, level - 1, -1, 0, 1, 2, 1, 0, -1, -2);
        p.decryptsToPlain(g);
        p.decryptsToPlain(lowered);
    }

    /** The int from which so many draws make z become this one. */
    private static int seedBefore(int z, int draws) {
        int inverse = 1;
        for (int step = 0; step < 5; step++) {
            inverse *= 2 - 1664525 * inverse;
        }
        int seed = z;
        for (int draw = 0; draw < draws; draw++) {
            seed = (seed - 1013904223) * inverse;
        }
        return seed;
    }

    private static long next(long z) {
        return (z * 1664525L + 1013904223L) & 0xFFFFFFFFL;
    }

    /** The reckoning is here one of longs without signs, so that nothing wraps and nothing is shifted. */
    private void drawingWraps() {
        int[] seeds = {0, 1, -1, Integer.MIN_VALUE, Integer.MIN_VALUE + 1, Integer.MAX_VALUE, Integer.MAX_VALUE - 1};
        for (int seed : seeds) {
            LevelledRing ring = new LevelledRing(seed);
            long z = seed & 0xFFFFFFFFL;
            for (int i = 0; i < 8; i++) {
                z = next(z);
                checks.same("secret(" + i + ") of " + seed, ring.secret(i), z / 256 % 3 - 1);
            }
        }
        int[] drawn = {0, 255, 256, -1, -256, -257, Integer.MAX_VALUE, Integer.MIN_VALUE, Integer.MIN_VALUE + 256};
        for (int z : drawn) {
            LevelledRing ring = new LevelledRing(seedBefore(z, 1));
            checks.same("secret(0) where z is " + z, ring.secret(0), (z & 0xFFFFFFFFL) / 256 % 3 - 1);
        }
    }

    private void smallDraws() {
        int[] draws = {0, 1, 2, 3, 8388607, 8388608, 16777213, 16777214, 16777215};
        int[] due = {-1, 0, 1, -1, 0, 1, 0, 1, -1};
        for (int n = 0; n < draws.length; n++) {
            for (int i = 0; i < 8; i++) {
                LevelledRing ring = new LevelledRing(seedBefore(draws[n] << 8, i + 1));
                checks.same("secret(" + i + ") drawn as " + draws[n], ring.secret(i), due[n]);
            }
        }
    }

    private void uniformDraws() {
        for (int k = 0; k < 4; k++) {
            int q = PRIMES[k];
            int[] draws = {0, 1, q - 1, q, q + 1, 2 * q - 1, 2 * q, 8388607, 8388608, 16777215};
            Pair p = pair("draws modulo q" + k);
            for (int draw : draws) {
                p.input(seedBefore(draw << 8, k + 1));
                p.input(seedBefore((draw << 8) + 255, 28 + k + 1));
            }
            p.runsThrough();
            for (int n = 0; n < draws.length; n++) {
                checks.same("coefficient 0 drawn as " + draws[n], p.part(2 * n, 1, 0) % q, draws[n] % q);
                checks.same("coefficient 7 drawn as " + draws[n], p.part(2 * n + 1, 1, 7) % q, draws[n] % q);
            }
        }
    }

    /** The secrets of greatest and least coefficients; the secret 0 hides nothing, and C0 is then the message + 17 * E. */
    private void uniformSecrets() {
        for (int s = -1; s <= 1; s++) {
            Pair p = new Pair(checks, "a secret of " + s + " alone", UNIFORM_SECRETS[s + 1]);
            for (int i = 0; i < 8; i++) {
                checks.same("secret(" + i + ")", p.secret(i), s);
            }
            p.message(0, 1, 8, 9, 15, 16, 16, 0);
            p.build("I L0 L1 L2 P0,0 P1,1 P2,2");
            p.runsThrough();
            p.askAllGates();
            for (int g = 0; g < 7; g++) {
                p.decryptsToPlain(g);
            }
        }
        Pair p = new Pair(checks, "a secret of 0 alone", UNIFORM_SECRETS[1]);
        p.message(0, 1, 8, 9, 15, 16, 16, 0);
        for (int seed : UNIFORM_ERRORS) {
            p.input(seed);
        }
        p.runsThrough();
        long[] message = {0, 1, 8, 9, 15, 16, 16, 0};
        for (int e = -1; e <= 1; e++) {
            for (int i = 0; i < 8; i++) {
                long due = message[i] + 17 * e;
                checks.same("C0 without a secret", p.part(e + 1, 0, i), due < 0 ? MODULI[3] + due : due);
            }
        }
    }

    private static int addGate(Pair p, int kind) {
        switch (kind) {
            case 0: return p.input(3);
            case 1: return p.sum(0, 0);
            case 2: return p.difference(0, 0);
            case 3: return p.product(0, 0);
            case 4: return p.shift(0, 15);
            default: return p.lowered(0);
        }
    }

    private void atMost24Gates() {
        for (int kind = 0; kind < 6; kind++) {
            Pair p = pair("24 gates, the last of kind " + kind);
            p.put(0, 7);
            for (int g = 0; g < 23; g++) {
                checks.same("input(1)", p.input(1), g);
            }
            checks.same("the gate after 23 gates", addGate(p, kind), 23);
            checks.same("count()", p.count(), 24);
            for (int refused = 0; refused < 6; refused++) {
                checks.same("a gate after 24 gates", addGate(p, refused), NONE);
            }
            checks.same("count()", p.count(), 24);
            p.runsThrough();
            p.decryptsToPlain(22);
            p.askAll(23);
            p.askAll(24);
        }
    }

    private void tooGreatAtLevel0() {
        checks.same("the bound", (MODULI[0] - 1) / 2, 16184);
        String less = "I L0 S1,1 P1,2 S3,3 P4,4 S5,5 S6,5 L6 S7,8 S9,9 S10,8 S11,9 S12,11";
        String more = "I S0,0 S1,1 P2,2 P3,3 P4,4 S5,5 S6,6 S7,7 L8 S9,9 S10,10 S11,9";
        hasRoom(less, 0, 16183);
        hasRoom(asDifference(less), 0, 16183);
        hasRoom(GREATEST_AT_LEVEL_0, 0, 16184);
        hasRoom(asDifference(GREATEST_AT_LEVEL_0), 0, 16184);
        meterIs(more, 11, 0, 12948);
        meterIs(more, 9, 0, 16185 - 12948);
        hasNoRoom(more);
        hasNoRoom(asDifference(more));
    }

    /** The value of one gate of a circuit, so that it can be seen what the meter of a later one would be. */
    private void meterIs(String gates, int g, int level, long meter) {
        Pair p = circuit(gates);
        p.run();
        p.valueIs(g, level, meter);
    }

    private void tooGreatAtLevel1() {
        checks.same("the bound", (MODULI[1] - 1) / 2, 484256424);
        String less = "I L0 L1 S1,2 P3,0 P3,3 S3,5 S6,6 S7,5 S8,8 S9,4 S10,10 S11,11 S12,12 S13,2 S14,3";
        String bound = "I L0 L1 P0,0 S2,1 S2,2 P3,4 P3,3 P4,5 L7 S8,9 S8,8 S11,11 S12,6 S13,8 S14,10 S15,15 S16,16"
            + " S17,17";
        String more = "I L0 P1,1 L1 S3,3 S4,4 S2,5 P3,4 P5,0 S6,4 S3,8 S10,10 S11,8 S12,12 S13,7 S14,14 S15,15 S16,6"
            + " S17,17 S18,3 S19,9";
        hasRoom(less, 1, 484256423);
        hasRoom(asDifference(less), 1, 484256423);
        hasRoom(bound, 1, 484256424);
        hasRoom(asDifference(bound), 1, 484256424);
        long ninth = circuitMeter(more, 9);
        meterIs(more, 19, 1, 484256425 - ninth);
        hasNoRoom(more);
        hasNoRoom(asDifference(more));
    }

    private long circuitMeter(String gates, int g) {
        Pair p = circuit(gates);
        p.run();
        return p.meter(g);
    }

    /**
     * No chain of sums of the second product that was searched comes nearer to this bound with 24 gates, from below or
     * from above; to come to it exactly takes more gates, as far as can be seen.
     */
    private void tooGreatAtLevel2() {
        long bound = 13699129992680L;
        checks.same("the bound", (MODULI[2] - 1) / 2, bound);
        long product = 8 * 685 * 685 + SWITCHING[2];
        String doublings = withDoublings("I P0,0 P1,1", 2, 18);
        hasRoom(doublings, 2, product << 18);
        hasRoom(doublings + " S20,20", 2, product << 19);
        hasNoRoom(doublings + " S20,20 S21,21");
        hasNoRoom(doublings + " S20,20 D21,21");
        hasRoom(doublings + " S20,20 S21,20 S22,18", 2, bound - 6184429032L);
        hasRoom(doublings + " S20,20 S21,20 D22,18", 2, bound - 6184429032L);
        String above = doublings + " S20,17 S21,21 S22,21";
        meterIs(above, 22, 2, (bound + 520467323416L) / 3 * 2);
        hasNoRoom(above);
        hasNoRoom(asDifference(above));
    }

    /** A circuit with so many sums behind it, each of the gate before it and itself. */
    private static String withDoublings(String gates, int last, int times) {
        StringBuilder all = new StringBuilder(gates);
        for (int g = last; g < last + times; g++) {
            all.append(" S").append(g).append(',').append(g);
        }
        return all.toString();
    }

    /**
     * No 24 gates come to a meter that is too great here: a product has at most 8 * 1000 * 1000 + 15869568, which takes
     * 34 doublings to come to the bound. Seventeen of them have room.
     */
    private void neverTooGreatAtLevel3() {
        String doublings = withDoublings("I S0,0 S1,1 S2,2 S3,3 S4,3 P5,5", 6, 17);
        hasRoom(doublings, 3, (8 * 792 * 792 + SWITCHING[3]) << 17);
    }

    /** An input of 16 whose E is 1 has the noise 33, which is its meter; so have its sums. */
    private void inputOfTheGreatestNoise() {
        Pair p = pair("the greatest noise of an input");
        p.message(16, 16, 16, 16, 16, 16, 16, 16);
        p.input(UNIFORM_ERRORS[2]);
        p.message(0, 0, 0, 0, 0, 0, 0, 0);
        p.input(UNIFORM_ERRORS[0]);
        p.input(UNIFORM_ERRORS[1]);
        p.sum(0, 0);
        p.difference(1, 0);
        p.runsThrough();
        p.valueIs(0, 3, 33);
        checks.same("noise(0)", p.noise(0), 33);
        p.valueIs(1, 3, 33);
        checks.same("noise(1)", p.noise(1), 17);
        p.valueIs(2, 3, 33);
        checks.same("noise(2)", p.noise(2), 0);
        p.valueIs(3, 3, 66);
        checks.same("noise(3)", p.noise(3), 66);
        checks.same("noise(4)", p.noise(4), 50);
    }

    /** For each two levels and either order; the operands keep their own values. */
    private void sumLowers() {
        for (int a = 0; a < 4; a++) {
            for (int b = 0; b < 4; b++) {
                Pair p = circuit("I L0 L1 L2 S" + a + "," + b + " D" + a + "," + b);
                p.runsThrough();
                int level = 3 - Math.max(a, b);
                p.valueIs(4, level, level == 3 ? 66 : 154);
                p.valueIs(5, level, level == 3 ? 66 : 154);
                for (int g = 0; g < 4; g++) {
                    p.valueIs(g, 3 - g, g == 0 ? 33 : 77);
                }
            }
        }
    }

    private void productMakesLevelsEqual() {
        for (int a = 0; a < 4; a++) {
            for (int b = 0; b < 4; b++) {
                Pair p = circuit("I L0 L1 L2 P" + a + "," + b);
                int level = 3 - Math.max(a, b);
                long meter = level == 3 ? 33 : 77;
                if (level == 0) {
                    p.isExhausted(4);
                } else {
                    p.runsThrough();
                    p.valueIs(4, level, 8 * meter * meter + SWITCHING[level]);
                }
                for (int g = 0; g < 4; g++) {
                    p.valueIs(g, 3 - g, g == 0 ? 33 : 77);
                }
            }
        }
    }

    /** All meters of level 3 are multiples of 33; so 990 and 1023 are the nearest to 1000. */
    private void loudAtLevel3() {
        String to990 = "I S0,0 S1,0 S2,1 S3,3 S4,3 S5,5";
        hasRoom(to990, 3, 990);
        hasRoom(to990 + " P6,6", 3, 8 * 990 * 990 + SWITCHING[3]);
        hasRoom(to990 + " P6,0", 3, 8 * 990 * 33 + SWITCHING[3]);
        hasRoom(to990 + " P0,6", 3, 8 * 33 * 990 + SWITCHING[3]);
        String to1023 = to990 + " S6,0";
        hasRoom(to1023, 3, 1023);
        hasRoom(to1023 + " P7,7", 2, 8 * 77 * 77 + SWITCHING[2]);
        hasRoom(to1023 + " P7,0", 2, 8 * 77 * 77 + SWITCHING[2]);
        hasRoom(to1023 + " P0,7", 2, 8 * 77 * 77 + SWITCHING[2]);
    }

    private void loudAtLevel2() {
        String to1000 = "I S0,0 L1 S1,1 S1,3 P3,4 S2,3 S6,5 S7,6";
        hasRoom(to1000, 2, 1000);
        hasRoom(to1000 + " P8,8", 2, 8 * 1000 * 1000 + SWITCHING[2]);
        hasRoom(to1000 + " P8,2", 2, 8 * 1000 * 77 + SWITCHING[2]);
        hasRoom(to1000 + " P0,8", 2, 8 * 77 * 1000 + SWITCHING[2]);
        String to1001 = "I L0 S0,1 S0,2 S3,2 S4,4 S5,3";
        hasRoom(to1001, 2, 1001);
        hasRoom(to1001 + " P6,6", 1, 8 * 77 * 77 + SWITCHING[1]);
        hasRoom(to1001 + " P6,1", 1, 8 * 77 * 77 + SWITCHING[1]);
        hasRoom(to1001 + " P0,6", 1, 8 * 77 * 77 + SWITCHING[1]);
    }

    private void loudAtLevel1() {
        String to1000 = "I P0,0 L0 S2,0 S1,3 S4,2 S3,4 P6,5 L3 S7,8 S8,6 S10,9";
        hasRoom(to1000, 1, 1000);
        hasRoom(to1000 + " P11,11", 1, 8 * 1000 * 1000 + SWITCHING[1]);
        hasRoom(to1000 + " P11,8", 1, 8 * 1000 * 77 + SWITCHING[1]);
        hasRoom(to1000 + " P0,11", 1, 8 * 77 * 1000 + SWITCHING[1]);
        String to1001 = "I L0 S1,1 S2,2 P3,3 S4,4 L5";
        hasRoom(to1001, 1, 1001);
        hasNoRoom(to1001 + " P6,6");
        hasNoRoom(to1001 + " P6,0");
        hasNoRoom(to1001 + " P0,6");
    }

    /** A meter is looked at again after each lowering, be it one that makes the levels equal or one for its loudness. */
    private void loudAfterALowering() {
        String quiet = LOWERED_TO_1000_FROM_3;
        hasRoom(quiet + " P20,20", 2, 8 * 1000 * 1000 + SWITCHING[2]);
        hasRoom(quiet + " P20,0", 2, 8 * 1000 * 77 + SWITCHING[2]);
        hasRoom(quiet + " L0 P20,21", 2, 8 * 1000 * 77 + SWITCHING[2]);
        hasRoom(quiet + " L0 P21,20", 2, 8 * 77 * 1000 + SWITCHING[2]);
        String loud = LOWERED_TO_1001_FROM_3;
        hasRoom(loud + " P20,20", 1, 8 * 77 * 77 + SWITCHING[1]);
        hasRoom(loud + " P0,20", 1, 8 * 77 * 77 + SWITCHING[1]);
        hasRoom(loud + " L0 P20,21", 1, 8 * 77 * 77 + SWITCHING[1]);
        hasRoom(loud + " L0 P21,20", 1, 8 * 77 * 77 + SWITCHING[1]);
        hasRoom(LOWERED_TO_1000_FROM_2 + " P22,22", 1, 8 * 1000 * 1000 + SWITCHING[1]);
        hasRoom(LOWERED_TO_1000_FROM_2 + " P0,22", 1, 8 * 77 * 1000 + SWITCHING[1]);
        hasNoRoom(LOWERED_TO_1001_FROM_2 + " P20,20");
        hasNoRoom(LOWERED_TO_1001_FROM_2 + " P20,0");
    }

    /** At level 0 nothing is lowered any more; but a product has no room there, be its operands loud or not. */
    private void loudAtLevel0() {
        String levels = "I L0 L1 L2";
        hasNoRoom(levels + " P3,3");
        String to924 = levels + " S3,3 S4,4 S5,4 S6,6";
        hasRoom(to924, 0, 924);
        hasNoRoom(to924 + " P7,7");
        String to1001 = to924 + " S7,3";
        hasRoom(to1001, 0, 1001);
        hasNoRoom(to1001 + " P8,8");
        hasNoRoom(to1001 + " P8,3");
        hasNoRoom(to1001 + " P0,8");
    }

    /** The greatest meters that are multiplied: 1000 above level 0, and at level 0 16184, which is exhausted. */
    private void greatestProductMeters() {
        hasRoom("I S0,0 S1,0 S2,1 S3,3 S4,3 S5,5 P6,6", 3, 23710368);
        hasRoom("I S0,0 L1 S1,1 S1,3 P3,4 S2,3 S6,5 S7,6 P8,8", 2, 20318336);
        hasRoom("I P0,0 L0 S2,0 S1,3 S4,2 S3,4 P6,5 L3 S7,8 S8,6 S10,9 P11,11", 1, 16471168);
        hasRoom(GREATEST_AT_LEVEL_0, 0, 16184);
        hasNoRoom(GREATEST_AT_LEVEL_0 + " P12,12");
        hasNoRoom(GREATEST_AT_LEVEL_0 + " P0,12");
    }

    private void shiftsAroundTheEnd() {
        for (int level = 0; level <= 3; level++) {
            Pair p = pair("shifts at level " + level);
            int g = p.loweredTo(level, p.exact(1, 2, 3, 4, 5, 6, 0, -8));
            int[] k = {0, 1, 7, 8, 9, 15};
            int[] shifted = new int[k.length];
            for (int n = 0; n < k.length; n++) {
                shifted[n] = p.shift(g, k[n]);
            }
            p.runsThrough();
            p.isExactly(shifted[0], level, 1, 2, 3, 4, 5, 6, 0, -8);
            p.isExactly(shifted[1], level, 8, 1, 2, 3, 4, 5, 6, 0);
            p.isExactly(shifted[2], level, -2, -3, -4, -5, -6, 0, 8, 1);
            p.isExactly(shifted[3], level, -1, -2, -3, -4, -5, -6, 0, 8);
            p.isExactly(shifted[4], level, -8, -1, -2, -3, -4, -5, -6, 0);
            p.isExactly(shifted[5], level, 2, 3, 4, 5, 6, 0, -8, -1);
            p.plainIs(shifted[3], 16, 15, 14, 13, 12, 11, 0, 8);
            p.plainIs(shifted[5], 2, 3, 4, 5, 6, 0, 9, 16);
            for (int n = 0; n < k.length; n++) {
                p.valueIs(shifted[n], level, level == 3 ? 66 : 77);
            }
        }
    }

    /** Where c is small, d is c; so 8 needs the k -8, and 9 the k 8, and the other way for -8 and -9. */
    private void loweringAtTheEdgesOfK() {
        for (int level = 1; level <= 3; level++) {
            for (int sign = -1; sign <= 1; sign += 2) {
                Pair p = pair("lowering small numbers from level " + level);
                int s = sign;
                int small = p.loweredTo(level, p.exact(0, s, 7 * s, 8 * s, 8 * s, 8 * s, 8 * s, 8 * s));
                int rest = p.loweredTo(level, p.exact(0, 0, 0, 0, s, 2 * s, 7 * s, 8 * s));
                int g = p.sum(small, rest);
                int lowered = p.lowered(g);
                p.runsThrough();
                p.isExactly(g, level, 0, s, 7 * s, 8 * s, 9 * s, 10 * s, 15 * s, 16 * s);
                p.isExactly(lowered, level - 1, 0, s, 7 * s, 8 * s, -8 * s, -7 * s, -2 * s, -s);
                p.decryptsToPlain(lowered);
            }
        }
    }

    /** 8 and -8 stay on their side of 0 when they are lowered; 9 goes below 0, and -9 to Q(l - 1) and above. */
    private void loweringAroundTheModulus() {
        for (int level = 1; level <= 3; level++) {
            Pair p = pair("lowering around Q(" + (level - 1) + ")");
            int eight = p.loweredTo(level, p.exact(8, -8, 8, -8, 8, -8, 0, 0));
            int some = p.loweredTo(level, p.exact(1, -1, 8, -8, 0, 0, 0, 0));
            int g = p.sum(eight, some);
            int lowered = p.lowered(g);
            p.runsThrough();
            long above = MODULI[level - 1];
            long[] due = {above - 8, 8, above - 1, 1, 8, above - 8, 0, 0};
            for (int i = 0; i < 8; i++) {
                checks.same("part(" + lowered + ", 0, " + i + ")", p.part(lowered, 0, i), due[i]);
            }
        }
        everyLoweredCoefficient();
    }

    /** The document's formula in longs, for coefficients from all of 0 .. Q(l) - 1. */
    private void everyLoweredCoefficient() {
        for (int seed = 0; seed < 40; seed++) {
            Pair p = new Pair(checks, "lowering inputs", seed);
            p.input(seed);
            p.loweredTo(0, 0);
            p.runsThrough();
            for (int g = 0; g < 3; g++) {
                for (int at = 0; at < 16; at++) {
                    long due = lowerCoefficient(p.part(g, at / 8, at % 8), 3 - g);
                    checks.same("a lowered coefficient", p.part(g + 1, at / 8, at % 8), due);
                }
            }
        }
    }

    private static long lowerCoefficient(long c, int level) {
        long q = PRIMES[level];
        long d = c % q;
        if (d > (q - 1) / 2) {
            d -= q;
        }
        long k = -8;
        while ((d + k) % 17 != 0) {
            k++;
        }
        return Math.floorMod((c - d - k * q) / q, MODULI[level - 1]);
    }

    private void loweredMetersAreRoundedDown() {
        lowersTo("I S0,0 S1,1 S1,2 S3,3 S4,4 S5,5 S6,0 S7,7 S8,8 S9,9 S10,10 S11,3 S12,0", 3, 26103, 77);
        lowersTo("I S0,0 S0,1 S2,2 S3,3 S4,4 S5,5 S6,6 S7,7 S8,8 S9,9 S10,5", 3, 26136, 78);
        lowersTo(LOWERED_TO_1000_FROM_3, 3, 24128379, 1000);
        lowersTo(LOWERED_TO_1001_FROM_3, 3, 924L * 26113, 1001);
        lowersTo("I P0,0 S0,0 P0,2 S3,3 S4,1 S5,4 S6,6 S7,7 L8 S5,9 S10,10", 2, 28288, 77);
        lowersTo("I P0,0 S1,1 S2,2 S3,3 S0,0 P5,5 L4 S7,6 S8,8 S9,0 S10,10 S11,8", 2, 28289, 78);
        lowersTo(LOWERED_TO_1000_FROM_2, 2, 924L * 28289 - 1, 1000);
        lowersTo(LOWERED_TO_1001_FROM_2, 2, 924L * 28289, 1001);
        lowersTo("I L0 S1,1 P2,1 S3,3 L4 S4,4 S5,6 S5,7 S8,8 S9,9 S10,10", 1, 29920, 77);
        lowersTo("I P0,0 P0,1 L2 S3,3 S0,4 S5,5 S4,6 S7,7 S8,8 S9,9 S5,10 S11,6", 1, 29921, 78);
    }

    private void lowersTo(String gates, int level, long meter, long lowered) {
        Pair p = circuit(gates);
        int g = last(p);
        p.lowered(g);
        p.runsThrough();
        p.valueIs(g, level, meter);
        p.valueIs(g + 1, level - 1, lowered);
    }

    private void exhaustedByALowering() {
        lowersTo(LOWERED_TO_16184, 1, 16108L * 29921 - 1, 16184);
        hasRoom(LOWERED_TO_16185, 1, 16108L * 29921);
        hasNoRoom(LOWERED_TO_16185 + " L19");
        // Lowered for a sum, a difference or a product with a gate of level 0, on either side.
        for (String gate : new String[] {"S19,20", "S20,19", "D19,20", "D20,19", "P19,20", "P20,19"}) {
            hasNoRoom(LOWERED_TO_16185 + " L2 " + gate);
        }
        // Lowered for a product because it is loud.
        hasNoRoom(LOWERED_TO_16185 + " P19,19");
        hasNoRoom(LOWERED_TO_16185 + " P19,2");
    }

    /** One operand is lowered to 16107 or 16108 and the other has 77: together that is the bound, and one more. */
    private void exhaustedByASumOfALoweredValue() {
        String room = "I S0,0 L0 L2 S3,3 S4,4 P5,1 S0,5 S7,7 S0,8 P9,9 S6,8 S11,8 S12,8 S13,10 S14,14 S15,10 S16,16"
            + " S17,17 S18,9 S19,19 L3";
        hasRoom(room + " S20,21", 0, 16184);
        hasRoom(room + " S21,20", 0, 16184);
        hasRoom(room + " D20,21", 0, 16184);
        String noRoom = "I P0,0 S1,1 P2,0 P1,1 S3,3 S5,5 P4,4 S6,6 S8,7 S9,9 S10,10 S11,10 L0 L13 L14";
        lowersTo(noRoom + " S12,13", 1, 479689008 + 77, 16108);
        hasNoRoom(noRoom + " S12,15");
        hasNoRoom(noRoom + " S15,12");
        hasNoRoom(noRoom + " D12,15");
    }

    private void exhaustedByItsOwnMeter() {
        Pair p = circuit(GREATEST_AT_LEVEL_0);
        p.runsThrough();
        p.shift(12, 15);
        p.runsThrough();
        p.valueIs(13, 0, 16184);
        p.sum(12, 0);
        p.isExhausted(14);
        checks.yes("cut(14)", p.cut(14));
        p.difference(0, 13);
        p.isExhausted(14);
    }

    private void exhaustedAtLevel0() {
        hasRoom("I L0", 2, 77);
        hasRoom("I L0 L1", 1, 77);
        hasRoom("I L0 L1 L2", 0, 77);
        hasNoRoom("I L0 L1 L2 L3");
        hasNoRoom("I L0 L1 L2 S3,3 L4");
        Pair p = circuit("I L0 L1 L2");
        p.shift(3, 1);
        p.lowered(4);
        p.isExhausted(5);
    }

    private void noiseWithoutSigns() {
        int[][] coefficients = {
            {0, 0, 0, 0, 0, 0, 0, 0}, {1, 0, 0, 0, 0, 0, 0, 0}, {-1, 0, 0, 0, 0, 0, 0, 0}, {0, 0, 0, 0, 0, 0, 0, -16},
            {15, 0, 0, -16, 0, 0, 0, 14}, {-15, 0, 0, 16, 0, 0, 0, -14}
        };
        int[] due = {0, 1, 1, 16, 16, 16};
        for (int n = 0; n < due.length; n++) {
            Pair p = pair("noise of exact values");
            int g = p.exact(coefficients[n]);
            p.runsThrough();
            checks.same("noise(" + g + ")", p.noise(g), due[n]);
        }
        for (int level = 0; level <= 2; level++) {
            Pair p = pair("noise at level " + level);
            int above = p.loweredTo(level, p.exact(0, 0, 7, 0, 0, 0, 0, 8));
            int below = p.loweredTo(level, p.exact(-8, 0, 7, 0, 0, 0, 0, 0));
            p.runsThrough();
            checks.same("noise(" + above + ")", p.noise(above), 8);
            checks.same("noise(" + below + ")", p.noise(below), 8);
        }
    }

    private void decryptedOfNegatives() {
        Pair p = pair("decrypted of exact values");
        int g = p.exact(0, 1, 16, 16, -1, -16, -16, -16);
        int h = p.exact(0, 0, 0, 1, 0, 0, -1, -2);
        int sum = p.sum(g, h);
        p.runsThrough();
        p.isExactly(sum, 3, 0, 1, 16, 17, -1, -16, -17, -18);
        int[] due = {0, 1, 16, 0, 16, 1, 0, 16};
        for (int i = 0; i < 8; i++) {
            checks.same("decrypted(" + sum + ", " + i + ")", p.decrypted(sum, i), due[i]);
        }
    }
}
