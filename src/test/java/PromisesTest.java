/**
 * Each promise of the document with ordinary inputs, its edges and wrong inputs. What is due stands here as a number
 * where the document gives one by simple reckoning; beside that, each call of a pair is held against the reference.
 */
public final class PromisesTest {
    private static final int NONE = LevelledRing.NONE;
    private static final int[] NO_GATES = {Integer.MIN_VALUE, -1, 24, Integer.MAX_VALUE};
    private static final int[] NO_COEFFICIENTS = {Integer.MIN_VALUE, -1, 8, Integer.MAX_VALUE};
    private static final int[] SEEDS = {0, 1, -1, 42, Integer.MIN_VALUE, Integer.MAX_VALUE};

    private final Checks checks = new Checks("PromisesTest");

    public static void main(String[] args) {
        new PromisesTest().checkAll();
    }

    private void checkAll() {
        newObject();
        put();
        input();
        sum();
        difference();
        sumsOfDifferentLevels();
        sumWithAMeterThatIsTooGreat();
        product();
        productOfDifferentLevels();
        productAtTheLoudMeter();
        productThatIsExhausted();
        productOfALoudMeterAtLevel1();
        shift();
        lowered();
        loweredThatIsExhausted();
        loweringForASumThatIsExhausted();
        everyGateIsRefusedAt24();
        gatesOfNoGate();
        count();
        cut();
        run();
        runUpToAnExhaustedGate();
        level();
        meter();
        noise();
        part();
        decrypted();
        plain();
        secret();
        checks.finish();
    }

    private Pair pair(String name, int seed) {
        return new Pair(checks, name, seed);
    }

    /** A pair whose gate 0 is the input of 1 + 2x + .. + 8x^7. */
    private Pair pairWithInput(String name) {
        Pair p = pair(name, 2026);
        for (int i = 0; i < 8; i++) {
            p.put(i, i + 1);
        }
        p.input(11);
        return p;
    }

    /** Goes down by three LOWERED gates: gate g is then at level 3 - g, and has from level 2 on the meter 77. */
    private Pair pairWithAllLevels(String name) {
        Pair p = pairWithInput(name);
        p.lowered(0);
        p.lowered(1);
        p.lowered(2);
        return p;
    }

    // Promise 1

    private void newObject() {
        for (int seed : SEEDS) {
            Pair p = pair("a new object", seed);
            checks.same("count()", p.count(), 0);
            checks.same("run()", p.run(), NONE);
            for (int i = 0; i < 8; i++) {
                p.secret(i);
            }
            checks.same("input(3)", p.input(3), 0);
            p.plainIs(0, 0, 0, 0, 0, 0, 0, 0, 0);
            // A product at each level shows each of the keys A(j) and B(j).
            p.product(0, 0);
            p.lowered(0);
            p.product(2, 2);
            p.lowered(2);
            p.product(4, 4);
            checks.same("run()", p.run(), NONE);
            p.askAllGates();
        }
        LevelledRing first = new LevelledRing(5);
        LevelledRing second = new LevelledRing(6);
        first.put(0, 3);
        first.input(1);
        checks.same("count() of another object", second.count(), 0);
        checks.same("NONE", NONE, -1);
    }

    // Promise 2

    private void put() {
        Pair p = pair("put", 3);
        checks.yes("put(0, 3)", p.put(0, 3));
        checks.yes("put(1, 17)", p.put(1, 17));
        checks.yes("put(2, 16)", p.put(2, 16));
        checks.yes("put(3, -1)", p.put(3, -1));
        checks.yes("put(4, -17)", p.put(4, -17));
        checks.yes("put(5, -18)", p.put(5, -18));
        checks.yes("put(6, MIN)", p.put(6, Integer.MIN_VALUE));
        checks.yes("put(7, MAX)", p.put(7, Integer.MAX_VALUE));
        for (int i : NO_COEFFICIENTS) {
            checks.no("put(" + i + ", 5)", p.put(i, 5));
        }
        p.input(0);
        p.plainIs(0, 3, 0, 16, 16, 0, 16, 8, 8);
        checks.yes("put(0, 4)", p.put(0, 4));
        p.input(0);
        p.plainIs(1, 4, 0, 16, 16, 0, 16, 8, 8);
        p.run();
        p.valueIs(0, 3, 33);
        p.valueIs(1, 3, 33);
    }

    // Promise 3

    private void input() {
        Pair p = pairWithInput("input");
        p.put(0, 9);
        checks.same("input(12)", p.input(12), 1);
        p.put(0, 0);
        p.plainIs(0, 1, 2, 3, 4, 5, 6, 7, 8);
        p.plainIs(1, 9, 2, 3, 4, 5, 6, 7, 8);
        for (int seed : SEEDS) {
            p.input(seed);
        }
        p.hasNoValue(0);
        checks.same("run()", p.run(), NONE);
        for (int g = 0; g < p.count(); g++) {
            p.valueIs(g, 3, 33);
        }
        Pair full = pair("input up to 24 gates", 4);
        for (int g = 0; g < 24; g++) {
            checks.same("input(" + g + ")", full.input(g), g);
        }
        checks.same("input(24)", full.input(24), NONE);
        checks.same("count()", full.count(), 24);
        checks.same("run()", full.run(), NONE);
        full.askAllGates();
    }

    // Promises 4 and 5

    private void sum() {
        Pair p = pairWithInput("sum");
        p.put(7, 16);
        p.input(13);
        checks.same("sum(0, 1)", p.sum(0, 1), 2);
        checks.same("sum(1, 1)", p.sum(1, 1), 3);
        p.plainIs(2, 2, 4, 6, 8, 10, 12, 14, 7);
        p.plainIs(3, 2, 4, 6, 8, 10, 12, 14, 15);
        checks.same("run()", p.run(), NONE);
        p.valueIs(2, 3, 66);
        p.valueIs(3, 3, 66);
        long q3 = 715450762997731793L;
        checks.same("part(2, 0, 5)", p.part(2, 0, 5), (p.part(0, 0, 5) + p.part(1, 0, 5)) % q3);
        checks.same("part(2, 1, 5)", p.part(2, 1, 5), (p.part(0, 1, 5) + p.part(1, 1, 5)) % q3);
    }

    private void difference() {
        Pair p = pairWithInput("difference");
        p.put(0, 2);
        p.input(13);
        checks.same("difference(0, 1)", p.difference(0, 1), 2);
        checks.same("difference(1, 0)", p.difference(1, 0), 3);
        checks.same("difference(1, 1)", p.difference(1, 1), 4);
        p.plainIs(2, 16, 0, 0, 0, 0, 0, 0, 0);
        p.plainIs(3, 1, 0, 0, 0, 0, 0, 0, 0);
        p.plainIs(4, 0, 0, 0, 0, 0, 0, 0, 0);
        checks.same("run()", p.run(), NONE);
        p.valueIs(2, 3, 66);
        p.valueIs(3, 3, 66);
        p.valueIs(4, 3, 66);
        checks.same("noise(4)", p.noise(4), 0);
    }

    private void sumsOfDifferentLevels() {
        Pair p = pairWithAllLevels("sums of different levels");
        for (int a = 0; a < 4; a++) {
            for (int b = 0; b < 4; b++) {
                int sum = p.sum(a, b);
                int difference = p.difference(b, a);
                checks.same("run()", p.run(), NONE);
                int level = 3 - Math.max(a, b);
                long meter = level == 3 ? 66 : 154;
                p.valueIs(sum, level, meter);
                p.valueIs(difference, level, meter);
                p.cut(4);
            }
        }
    }

    /** At level 0 the greatest meter is 16184, which 399 and 205 times 77 just reach. */
    private void sumWithAMeterThatIsTooGreat() {
        Pair p = pairWithAllLevels("a meter that is too great");
        p.sum(2, 2);
        p.sum(4, 4);
        p.sum(5, 2);
        p.product(6, 6);
        checks.same("lowered(7)", p.lowered(7), 8);
        int[][] chain = {{3, 3}, {9, 9}, {10, 10}, {11, 11}, {12, 12}, {13, 13}, {14, 14},
            {15, 14}, {16, 11}, {17, 10}, {18, 3}};
        for (int[] ab : chain) {
            p.sum(ab[0], ab[1]);
        }
        checks.same("sum(19, 8)", p.sum(19, 8), 20);
        checks.same("run()", p.run(), NONE);
        p.valueIs(7, 1, 9656968);
        p.valueIs(8, 0, 399);
        p.valueIs(20, 0, 16184);
        p.sum(20, 3);
        checks.same("run()", p.run(), 21);
        p.hasNoValue(21);
        p.cut(21);
        p.difference(0, 20);
        checks.same("run()", p.run(), 21);
        p.hasNoValue(21);
        p.cut(21);
        p.shift(20, 9);
        checks.same("run()", p.run(), NONE);
        p.valueIs(21, 0, 16184);
    }

    // Promise 6

    private void product() {
        Pair p = pair("product", 77);
        p.put(0, 1);
        p.put(7, 2);
        p.input(1);
        p.put(0, 0);
        p.put(7, 0);
        p.put(1, 3);
        p.input(2);
        checks.same("product(0, 1)", p.product(0, 1), 2);
        checks.same("product(0, 0)", p.product(0, 0), 3);
        // (1 + 2x^7) * 3x = 3x + 6x^8, and x^8 is -1.
        p.plainIs(2, 11, 3, 0, 0, 0, 0, 0, 0);
        // 1 + 4x^7 + 4x^14
        p.plainIs(3, 1, 0, 0, 0, 0, 0, 13, 4);
        checks.same("run()", p.run(), NONE);
        long switching = 136 * (32368L + 29920 + 28288 + 26112);
        p.valueIs(2, 3, 8 * 33 * 33 + switching);
        p.valueIs(3, 3, 8 * 33 * 33 + switching);
        checks.same("product(2, 3)", p.product(2, 3), 4);
        checks.same("run()", p.run(), NONE);
        p.valueIs(4, 2, 8 * 685 * 685 + 136 * (32368L + 29920 + 28288));
    }

    private void productOfDifferentLevels() {
        Pair p = pairWithAllLevels("product of different levels");
        long[] switching = {0, 136 * 62288L, 136 * 90576L, 136 * 116688L};
        for (int a = 0; a < 3; a++) {
            for (int b = 0; b < 3; b++) {
                int g = p.product(a, b);
                checks.same("run()", p.run(), NONE);
                int level = 3 - Math.max(a, b);
                long meter = level == 3 ? 33 : 77;
                p.valueIs(g, level, 8 * meter * meter + switching[level]);
                p.cut(4);
            }
        }
        p.sum(1, 1);
        p.product(4, 0);
        checks.same("run()", p.run(), NONE);
        p.valueIs(5, 2, 8 * 154 * 77 + switching[2]);
    }

    /** A meter of 1000 is not yet lowered for a product, one of 1001 is. */
    private void productAtTheLoudMeter() {
        Pair p = pairWithInput("product at the meter 1000");
        int[][] to22 = {{0, 0}, {1, 1}, {2, 2}, {3, 3}, {4, 2}, {5, 1}};
        for (int[] ab : to22) {
            p.sum(ab[0], ab[1]);
        }
        p.product(6, 6);
        p.lowered(7);
        p.lowered(0);
        p.sum(9, 9);
        p.sum(8, 10);
        p.product(11, 9);
        p.product(9, 11);
        p.product(11, 11);
        checks.same("run()", p.run(), NONE);
        p.valueIs(11, 2, 1000);
        p.valueIs(12, 2, 8 * 1000 * 77 + 136 * 90576L);
        p.valueIs(13, 2, 8 * 1000 * 77 + 136 * 90576L);
        p.valueIs(14, 2, 8 * 1000 * 1000 + 136 * 90576L);
        p.cut(7);
        p.product(4, 4);
        p.lowered(7);
        p.lowered(0);
        p.sum(9, 9);
        p.sum(10, 9);
        p.sum(8, 11);
        p.product(12, 9);
        p.product(9, 12);
        p.product(12, 12);
        checks.same("run()", p.run(), NONE);
        p.valueIs(12, 2, 1001);
        for (int g = 13; g <= 15; g++) {
            p.valueIs(g, 1, 8 * 77 * 77 + 136 * 62288L);
        }
    }

    private void productThatIsExhausted() {
        Pair p = pairWithAllLevels("a product at level 0");
        p.product(3, 3);
        checks.same("run()", p.run(), 4);
        p.hasNoValue(4);
        p.cut(4);
        p.product(0, 3);
        checks.same("run()", p.run(), 4);
        p.hasNoValue(4);
        p.plainIs(4, 7, 10, 10, 9, 9, 12, 3, 1);
    }

    /** Twelve times 77 can be multiplied at level 1; thirteen times 77 is 1001, and at level 0 there is no room. */
    private void productOfALoudMeterAtLevel1() {
        Pair p = pairWithAllLevels("a product of a loud meter at level 1");
        int[][] to13 = {{2, 2}, {4, 4}, {5, 5}, {6, 5}, {7, 2}};
        for (int[] ab : to13) {
            p.sum(ab[0], ab[1]);
        }
        p.product(7, 2);
        checks.same("run()", p.run(), NONE);
        p.valueIs(8, 1, 1001);
        p.valueIs(9, 1, 8 * 924 * 77 + 136 * 62288L);
        p.product(8, 2);
        checks.same("run()", p.run(), 10);
        p.hasNoValue(10);
        p.cut(10);
        p.product(2, 8);
        checks.same("run()", p.run(), 10);
        p.hasNoValue(10);
    }

    // Promise 7

    private void shift() {
        Pair p = pairWithInput("shift");
        for (int k = 0; k < 16; k++) {
            checks.same("shift(0, " + k + ")", p.shift(0, k), k + 1);
        }
        checks.same("run()", p.run(), NONE);
        p.plainIs(1, 1, 2, 3, 4, 5, 6, 7, 8);
        p.plainIs(2, 9, 1, 2, 3, 4, 5, 6, 7);
        p.plainIs(8, 15, 14, 13, 12, 11, 10, 9, 1);
        p.plainIs(9, 16, 15, 14, 13, 12, 11, 10, 9);
        p.plainIs(10, 8, 16, 15, 14, 13, 12, 11, 10);
        p.plainIs(16, 2, 3, 4, 5, 6, 7, 8, 16);
        for (int g = 1; g <= 16; g++) {
            p.valueIs(g, 3, 33);
        }
        for (int k : new int[] {Integer.MIN_VALUE, -1, 16, Integer.MAX_VALUE}) {
            checks.same("shift(0, " + k + ")", p.shift(0, k), NONE);
        }
        checks.same("count()", p.count(), 17);
        shiftAtEachLevel();
    }

    private void shiftAtEachLevel() {
        Pair p = pairWithAllLevels("shift at each level");
        for (int a = 0; a < 4; a++) {
            p.shift(a, 11);
        }
        checks.same("run()", p.run(), NONE);
        for (int a = 0; a < 4; a++) {
            p.valueIs(4 + a, 3 - a, a == 0 ? 33 : 77);
        }
    }

    // Promise 8

    private void lowered() {
        Pair p = pairWithInput("lowered");
        p.product(0, 0);
        checks.same("lowered(1)", p.lowered(1), 2);
        checks.same("lowered(2)", p.lowered(2), 3);
        checks.same("lowered(3)", p.lowered(3), 4);
        checks.same("lowered(0)", p.lowered(0), 5);
        p.plainIs(5, 1, 2, 3, 4, 5, 6, 7, 8);
        checks.same("run()", p.run(), NONE);
        p.valueIs(2, 2, 15878280L / 26113 + 77);
        p.valueIs(3, 1, 77);
        p.valueIs(4, 0, 77);
        p.valueIs(5, 2, 77);
        checks.same("lowered(4)", p.lowered(4), 6);
        checks.same("run()", p.run(), 6);
        p.hasNoValue(6);
        p.plainIs(6, p.plain(1, 0), p.plain(1, 1), p.plain(1, 2), p.plain(1, 3),
            p.plain(1, 4), p.plain(1, 5), p.plain(1, 6), p.plain(1, 7));
    }

    /** Fifty times a product of level 1 has just room there, but not when it is lowered to level 0. */
    private Pair pairWithLittleRoom(String name) {
        Pair p = pairWithAllLevels(name);
        int[][] chain = {{2, 2}, {4, 4}, {5, 2}};
        for (int[] ab : chain) {
            p.sum(ab[0], ab[1]);
        }
        p.product(6, 6);
        int[][] fifty = {{7, 7}, {8, 8}, {9, 9}, {10, 10}, {11, 11}, {12, 11}, {13, 8}};
        for (int[] ab : fifty) {
            p.sum(ab[0], ab[1]);
        }
        checks.same("run()", p.run(), NONE);
        p.valueIs(13, 1, 48 * 9656968L);
        p.valueIs(14, 1, 50 * 9656968L);
        return p;
    }

    private void loweredThatIsExhausted() {
        Pair p = pairWithLittleRoom("lowered with a meter that is too great");
        p.lowered(13);
        checks.same("run()", p.run(), NONE);
        p.valueIs(15, 0, 48 * 9656968L / 29921 + 77);
        p.lowered(14);
        checks.same("run()", p.run(), 16);
        p.hasNoValue(16);
    }

    private void loweringForASumThatIsExhausted() {
        Pair p = pairWithLittleRoom("an operand with a meter that is too great");
        for (int turn = 0; turn < 4; turn++) {
            int g = turn == 0 ? p.sum(3, 14) : turn == 1 ? p.sum(14, 3) : turn == 2 ? p.difference(14, 3) : p.product(3, 14);
            checks.same("run()", p.run(), g);
            p.hasNoValue(g);
            p.cut(g);
        }
        p.sum(14, 14);
        checks.same("run()", p.run(), 15);
        p.hasNoValue(15);
    }

    // Promises 3 to 8: what is refused

    private void everyGateIsRefusedAt24() {
        Pair p = pairWithInput("24 gates");
        for (int g = 1; g < 24; g++) {
            checks.same("sum(0, 0)", p.sum(0, 0), g);
        }
        checks.same("input(1)", p.input(1), NONE);
        checks.same("sum(0, 1)", p.sum(0, 1), NONE);
        checks.same("difference(0, 1)", p.difference(0, 1), NONE);
        checks.same("product(0, 1)", p.product(0, 1), NONE);
        checks.same("shift(0, 1)", p.shift(0, 1), NONE);
        checks.same("lowered(0)", p.lowered(0), NONE);
        checks.same("count()", p.count(), 24);
        p.run();
        p.askAllGates();
        checks.yes("cut(23)", p.cut(23));
        checks.same("lowered(22)", p.lowered(22), 23);
    }

    private void gatesOfNoGate() {
        Pair p = pairWithInput("gates of no gate");
        refuseGate(p, 1);
        for (int g : NO_GATES) {
            refuseGate(p, g);
        }
        p.sum(0, 0);
        p.cut(1);
        refuseGate(p, 1);
        checks.same("count()", p.count(), 1);
        p.cut(0);
        refuseGate(p, 0);
        checks.same("count()", p.count(), 0);
    }

    private void refuseGate(Pair p, int g) {
        checks.same("sum(" + g + ", 0)", p.sum(g, 0), NONE);
        checks.same("sum(0, " + g + ")", p.sum(0, g), NONE);
        checks.same("sum twice " + g, p.sum(g, g), NONE);
        checks.same("difference(" + g + ", 0)", p.difference(g, 0), NONE);
        checks.same("difference(0, " + g + ")", p.difference(0, g), NONE);
        checks.same("product(" + g + ", 0)", p.product(g, 0), NONE);
        checks.same("product(0, " + g + ")", p.product(0, g), NONE);
        checks.same("shift(" + g + ", 0)", p.shift(g, 0), NONE);
        checks.same("lowered(" + g + ")", p.lowered(g), NONE);
    }

    // Promise 9

    private void count() {
        Pair p = pair("count", 8);
        checks.same("count()", p.count(), 0);
        p.input(1);
        checks.same("count()", p.count(), 1);
        p.sum(0, 0);
        p.difference(0, 0);
        p.product(0, 0);
        p.shift(0, 0);
        p.lowered(0);
        checks.same("count()", p.count(), 6);
        p.sum(6, 0);
        p.run();
        checks.same("count()", p.count(), 6);
        p.cut(2);
        checks.same("count()", p.count(), 2);
    }

    // Promise 10

    private void cut() {
        Pair p = pairWithInput("cut");
        p.sum(0, 0);
        p.product(0, 1);
        p.run();
        for (int n : new int[] {Integer.MIN_VALUE, -1, 3, 24, Integer.MAX_VALUE}) {
            checks.no("cut(" + n + ")", p.cut(n));
        }
        checks.same("count()", p.count(), 3);
        checks.yes("cut(1)", p.cut(1));
        checks.same("count()", p.count(), 1);
        p.valueIs(0, 3, 33);
        p.hasNoValue(1);
        checks.same("plain(1, 0)", p.plain(1, 0), NONE);
        // A new gate of the same number has neither the old one's value nor its plain polynomial.
        checks.same("shift(0, 1)", p.shift(0, 1), 1);
        p.hasNoValue(1);
        p.plainIs(1, 9, 1, 2, 3, 4, 5, 6, 7);
        checks.same("run()", p.run(), NONE);
        p.valueIs(1, 3, 33);
        checks.no("cut(2)", p.cut(2));
        checks.yes("cut(0)", p.cut(0));
        checks.no("cut(0)", p.cut(0));
        checks.same("count()", p.count(), 0);
        // The message register stays.
        p.input(1);
        p.plainIs(0, 1, 2, 3, 4, 5, 6, 7, 8);
    }

    // Promise 11

    private void run() {
        Pair p = pair("run", 9);
        checks.same("run()", p.run(), NONE);
        p.put(5, 5);
        p.input(1);
        p.put(5, 6);
        p.hasNoValue(0);
        checks.same("run()", p.run(), NONE);
        p.valueIs(0, 3, 33);
        checks.same("decrypted(0, 5)", p.decrypted(0, 5), 5);
        p.sum(0, 0);
        p.hasNoValue(1);
        checks.same("run()", p.run(), NONE);
        checks.same("run()", p.run(), NONE);
        p.valueIs(0, 3, 33);
        p.valueIs(1, 3, 66);
    }

    private void runUpToAnExhaustedGate() {
        Pair p = pairWithAllLevels("run up to an exhausted gate");
        p.lowered(3);
        p.sum(0, 0);
        p.lowered(4);
        checks.same("run()", p.run(), 4);
        p.valueIs(3, 0, 77);
        p.hasNoValue(4);
        p.hasNoValue(5);
        p.hasNoValue(6);
        checks.same("run()", p.run(), 4);
        p.input(2);
        checks.same("run()", p.run(), 4);
        p.hasNoValue(7);
        checks.yes("cut(5)", p.cut(5));
        checks.same("run()", p.run(), 4);
        checks.yes("cut(4)", p.cut(4));
        checks.same("run()", p.run(), NONE);
        p.sum(0, 0);
        checks.same("run()", p.run(), NONE);
        p.valueIs(4, 3, 66);
    }

    // Promises 12 to 14

    private void level() {
        Pair p = pairWithAllLevels("level");
        checks.same("level(0) before run()", p.level(0), NONE);
        p.run();
        for (int g = 0; g < 4; g++) {
            checks.same("level(" + g + ")", p.level(g), 3 - g);
        }
        checks.same("level(4)", p.level(4), NONE);
        for (int g : NO_GATES) {
            checks.same("level(" + g + ")", p.level(g), NONE);
        }
    }

    private void meter() {
        Pair p = pairWithInput("meter");
        checks.same("meter(0) before run()", p.meter(0), NONE);
        p.product(0, 0);
        p.run();
        checks.same("meter(0)", p.meter(0), 33);
        checks.same("meter(1)", p.meter(1), 15878280);
        // Twenty doublings take the meter far above an int's bounds.
        for (int g = 2; g < 22; g++) {
            p.sum(g - 1, g - 1);
        }
        checks.same("run()", p.run(), NONE);
        p.valueIs(21, 3, 15878280L << 20);
        checks.same("meter(22)", p.meter(22), NONE);
        for (int g : NO_GATES) {
            checks.same("meter(" + g + ")", p.meter(g), NONE);
        }
    }

    private void noise() {
        for (int seed : SEEDS) {
            Pair p = pair("noise", seed);
            p.put(3, 16);
            p.input(seed);
            checks.same("noise(0) before run()", p.noise(0), NONE);
            p.product(0, 0);
            for (int g = 2; g < 20; g++) {
                p.sum(g - 1, g - 1);
            }
            p.lowered(19);
            checks.same("run()", p.run(), NONE);
            for (int g = 0; g <= 20; g++) {
                checks.yes("noise(" + g + ") within the meter", p.noise(g) <= p.meter(g));
            }
            checks.same("noise(19)", p.noise(19), p.noise(1) << 18);
            checks.same("noise(21)", p.noise(21), NONE);
            for (int g : NO_GATES) {
                checks.same("noise(" + g + ")", p.noise(g), NONE);
            }
        }
    }

    // Promise 15

    private void part() {
        Pair p = pairWithAllLevels("part");
        checks.same("part(0, 0, 0) before run()", p.part(0, 0, 0), NONE);
        p.run();
        for (int g = 0; g < 4; g++) {
            long modulus = ReferenceRing.modulus(3 - g).longValueExact();
            for (int i = 0; i < 8; i++) {
                checks.yes("part within its modulus", p.part(g, 0, i) >= 0 && p.part(g, 0, i) < modulus);
                checks.yes("part within its modulus", p.part(g, 1, i) >= 0 && p.part(g, 1, i) < modulus);
            }
        }
        for (int wrong : NO_COEFFICIENTS) {
            checks.same("part(0, 0, " + wrong + ")", p.part(0, 0, wrong), NONE);
            checks.same("part(0, 1, " + wrong + ")", p.part(0, 1, wrong), NONE);
            checks.same("part(0, " + wrong + ", 0)", p.part(0, wrong, 0), NONE);
        }
        checks.same("part(0, 2, 0)", p.part(0, 2, 0), NONE);
        checks.same("part(4, 0, 0)", p.part(4, 0, 0), NONE);
        for (int g : NO_GATES) {
            checks.same("part(" + g + ", 1, 0)", p.part(g, 1, 0), NONE);
        }
    }

    // Promises 16 and 17

    private void decrypted() {
        Pair p = pairWithAllLevels("decrypted");
        checks.same("decrypted(0, 0) before run()", p.decrypted(0, 0), NONE);
        p.run();
        for (int g = 0; g < 4; g++) {
            for (int i = 0; i < 8; i++) {
                checks.same("decrypted(" + g + ", " + i + ")", p.decrypted(g, i), i + 1);
            }
            for (int wrong : NO_COEFFICIENTS) {
                checks.same("decrypted(" + g + ", " + wrong + ")", p.decrypted(g, wrong), NONE);
            }
        }
        checks.same("decrypted(4, 0)", p.decrypted(4, 0), NONE);
        for (int g : NO_GATES) {
            checks.same("decrypted(" + g + ", 0)", p.decrypted(g, 0), NONE);
        }
    }

    private void plain() {
        Pair p = pairWithAllLevels("plain");
        for (int g = 0; g < 4; g++) {
            p.plainIs(g, 1, 2, 3, 4, 5, 6, 7, 8);
            for (int wrong : NO_COEFFICIENTS) {
                checks.same("plain(" + g + ", " + wrong + ")", p.plain(g, wrong), NONE);
            }
        }
        checks.same("plain(4, 0)", p.plain(4, 0), NONE);
        for (int g : NO_GATES) {
            checks.same("plain(" + g + ", 0)", p.plain(g, 0), NONE);
        }
        p.lowered(3);
        p.difference(4, 3);
        checks.same("run()", p.run(), 4);
        // An exhausted gate, and one after it, have their plain polynomials nevertheless.
        p.plainIs(4, 1, 2, 3, 4, 5, 6, 7, 8);
        p.plainIs(5, 0, 0, 0, 0, 0, 0, 0, 0);
    }

    // Promise 18

    private void secret() {
        for (int seed : SEEDS) {
            LevelledRing ring = new LevelledRing(seed);
            int z = seed;
            for (int i = 0; i < 8; i++) {
                z = z * 1664525 + 1013904223;
                checks.same("secret(" + i + ") of " + seed, ring.secret(i), (z >>> 8) % 3 - 1);
            }
            for (int wrong : NO_COEFFICIENTS) {
                checks.same("secret(" + wrong + ")", ring.secret(wrong), 0);
            }
        }
    }
}
