import java.util.function.IntSupplier;

/**
 * The sentences of the document's promises that name a boundary case: a test of its own for each, at the boundary and
 * one step beyond it on either side.
 */
public final class PromisesBoundariesTest {
    private static final int NONE = LevelledRing.NONE;
    private static final int MIN = Integer.MIN_VALUE;
    private static final int MAX = Integer.MAX_VALUE;
    private static final int[] NO_COEFFICIENTS = {MIN, -2, -1, 8, 9, MAX};
    private static final int[] SEEDS = {MIN, -1, 0, 1, MAX};

    /** Of a pair from pairWithAndWithoutValues. */
    private static final int[] GATES_WITHOUT_VALUES = {MIN, -2, -1, 4, 5, 6, 7, 23, 24, 25, MAX};

    private final Checks checks = new Checks("PromisesBoundariesTest");

    public static void main(String[] args) {
        new PromisesBoundariesTest().checkAll();
    }

    private void checkAll() {
        checks.sentence("1: The message register is 0 (all coefficients)", this::newRegister);
        checks.sentence("1: no gates", this::noGatesYet);
        checks.sentence("2: becomes v modulo 17", this::putModulo17);
        checks.sentence("2: false, changing nothing, when i is not 0 .. 7", this::putOfNoCoefficient);
        checks.sentence("3: of the message register, as it is now", this::registerAsItIsNow);
        checks.sentence("3: NONE, adding nothing, when there are 24 gates", this::inputAt24Gates);
        checks.sentence("4, 5, 6: which may be the same", this::sameOperands);
        checks.sentence("4: NONE when there is no gate a or no gate b", () -> noOperand(1));
        checks.sentence("5: NONE when there is no gate a or no gate b", () -> noOperand(2));
        checks.sentence("6: NONE when there is no gate a or no gate b", () -> noOperand(3));
        checks.sentence("4: NONE when there are 24 gates", () -> operandsAt24Gates(1));
        checks.sentence("5: NONE when there are 24 gates", () -> operandsAt24Gates(2));
        checks.sentence("6: NONE when there are 24 gates", () -> operandsAt24Gates(3));
        checks.sentence("5: a less b", this::differenceInItsOrder);
        checks.sentence("7: NONE when there is no gate a", () -> noOperand(4));
        checks.sentence("7: NONE when k is not 0 .. 15", this::shiftByNoPower);
        checks.sentence("7: NONE when there are 24 gates", () -> operandsAt24Gates(4));
        checks.sentence("8: NONE when there is no gate a", () -> noOperand(5));
        checks.sentence("8: NONE when there are 24 gates", () -> operandsAt24Gates(5));
        checks.sentence("9: How many gates there are", this::countFrom0To24);
        checks.sentence("10: Takes gate n and all gates after it away", this::cutOfEachGate);
        checks.sentence("10: false when there is no gate n", this::cutOfNoGate);
        checks.sentence("10: the values before a cut stay", this::cutKeepsValuesBefore);
        checks.sentence("10: gates under the numbers that a cut took away", this::gatesAfterACut);
        checks.sentence("11: NONE when there are no gates at all", this::runOfNoGates);
        checks.sentence("11: Gives the gates that have no value theirs", this::runOfNewGatesOnly);
        checks.sentence("11: up to the first one that is exhausted", this::runUpToTheFirstExhausted);
        checks.sentence("11: the last gate is exhausted", this::runUpToTheLastGate);
        checks.sentence("11: it and the gates after it stay without a value", this::runAgainAfterExhaustion);
        checks.sentence("12: NONE when there is no gate g or it has no value", this::levelOfNoValue);
        checks.sentence("13: NONE likewise", this::meterOfNoValue);
        checks.sentence("14: NONE likewise", this::noiseOfNoValue);
        checks.sentence("15: from 0 to Q(l) - 1", this::partsWithinTheirModulus);
        checks.sentence("15: NONE when there is no such gate or value", this::partOfNoValue);
        checks.sentence("15: NONE when there is no such part", this::noSuchPart);
        checks.sentence("15: NONE when there is no such coefficient", this::noSuchCoefficientOfAPart);
        checks.sentence("16: NONE when there is no such gate or value", this::decryptedOfNoValue);
        checks.sentence("16: NONE when there is no such coefficient", this::noSuchCoefficientOfADecryption);
        checks.sentence("17: coefficient i of gate g's plain polynomial (0 .. 16)", this::plainFrom0To16);
        checks.sentence("17: NONE when there is no such gate", this::plainOfNoGate);
        checks.sentence("17: NONE when there is no such coefficient", this::noSuchCoefficientOfAPlain);
        checks.sentence("18: coefficient i of the secret (-1 .. 1)", this::secretFrom0To7);
        checks.sentence("18: 0 when i is not 0 .. 7", this::secretOfNoCoefficient);
        checks.finish();
    }

    private Pair pair(String name) {
        return new Pair(checks, name, 1115);
    }

    /** A pair with so many gates, all inputs of 1 + 2x + .. + 8x^7, that have their values. */
    private Pair pairOfInputs(String name, int gates) {
        Pair p = pair(name);
        p.message(1, 2, 3, 4, 5, 6, 7, 8);
        for (int g = 0; g < gates; g++) {
            p.input(100 + g);
        }
        p.runsThrough();
        return p;
    }

    /** The kinds 1 to 5 are those that promises 4 to 8 add; the last two of them have but one operand. */
    private static int addGate(Pair p, int kind, int a, int b) {
        switch (kind) {
            case 1: return p.sum(a, b);
            case 2: return p.difference(a, b);
            case 3: return p.product(a, b);
            case 4: return p.shift(a, 1);
            default: return p.lowered(a);
        }
    }

    /** A refused gate changes nothing: not the count, and no gate. */
    private void refuses(Pair p, String call, IntSupplier adding) {
        int count = p.count();
        checks.same(call, adding.getAsInt(), NONE);
        checks.same("count() after " + call, p.count(), count);
    }

    private void newRegister() {
        for (int seed : SEEDS) {
            Pair p = new Pair(checks, "a new register", seed);
            p.input(seed);
            p.plainIs(0, 0, 0, 0, 0, 0, 0, 0, 0);
            p.put(7, 1);
            p.input(seed);
            p.plainIs(1, 0, 0, 0, 0, 0, 0, 0, 1);
            p.runsThrough();
            p.decryptsToPlain(0);
            p.decryptsToPlain(1);
        }
    }

    private void noGatesYet() {
        for (int seed : SEEDS) {
            Pair p = new Pair(checks, "no gates yet", seed);
            checks.same("count()", p.count(), 0);
            checks.no("cut(0)", p.cut(0));
            for (int kind = 1; kind <= 5; kind++) {
                int adding = kind;
                refuses(p, "a gate of gate 0", () -> addGate(p, adding, 0, 0));
            }
            p.hasNoValue(0);
            checks.same("plain(0, 0)", p.plain(0, 0), NONE);
            checks.same("input(1)", p.input(1), 0);
        }
    }

    private void putModulo17() {
        int[] values = {0, 1, 15, 16, 17, 18, 33, 34, 35, -1, -2, -16, -17, -18, -33, -34, -35, MIN, MIN + 1, MAX, MAX - 1};
        int[] due = {0, 1, 15, 16, 0, 1, 16, 0, 1, 16, 15, 1, 0, 16, 1, 0, 16, 8, 9, 8, 7};
        for (int n = 0; n < values.length; n++) {
            Pair p = pair("put modulo 17");
            for (int i = 0; i < 8; i++) {
                checks.yes("put(" + i + ", " + values[n] + ")", p.put(i, values[n]));
            }
            p.input(n);
            p.plainIs(0, due[n], due[n], due[n], due[n], due[n], due[n], due[n], due[n]);
            p.runsThrough();
            p.decryptsToPlain(0);
        }
    }

    private void putOfNoCoefficient() {
        Pair p = pair("put of no coefficient");
        checks.yes("put(0, 3)", p.put(0, 3));
        checks.yes("put(7, 4)", p.put(7, 4));
        for (int i : NO_COEFFICIENTS) {
            checks.no("put(" + i + ", 5)", p.put(i, 5));
        }
        p.input(1);
        p.plainIs(0, 3, 0, 0, 0, 0, 0, 0, 4);
        checks.same("count()", p.count(), 1);
    }

    private void registerAsItIsNow() {
        Pair p = pair("the register as it is now");
        p.put(0, 1);
        p.input(7);
        p.put(0, 2);
        p.input(7);
        p.runsThrough();
        p.put(0, 3);
        p.input(7);
        p.put(0, 4);
        for (int g = 0; g < 3; g++) {
            checks.same("plain(" + g + ", 0)", p.plain(g, 0), g + 1);
        }
        p.runsThrough();
        for (int g = 0; g < 3; g++) {
            checks.same("decrypted(" + g + ", 0)", p.decrypted(g, 0), g + 1);
        }
        // Neither a cut nor a run changes the register.
        p.cut(0);
        p.input(8);
        p.plainIs(0, 4, 0, 0, 0, 0, 0, 0, 0);
    }

    private void inputAt24Gates() {
        Pair p = pair("input at 24 gates");
        for (int g = 0; g < 24; g++) {
            p.put(g % 8, g);
            checks.same("input(" + g + ")", p.input(g), g);
        }
        p.put(0, 12);
        refuses(p, "input(24)", () -> p.input(24));
        refuses(p, "input(-1)", () -> p.input(-1));
        p.runsThrough();
        refuses(p, "input(24)", () -> p.input(24));
        p.askAllGates();
        p.cut(23);
        checks.same("input(24)", p.input(24), 23);
        p.plainIs(23, 12, 0, 1, 2, 3, 4, 5, 6);
        refuses(p, "input(25)", () -> p.input(25));
    }

    private void sameOperands() {
        for (int a = 0; a < 4; a++) {
            Pair p = pairOfInputs("the same operands", 1);
            p.loweredTo(0, 0);
            p.sum(a, a);
            p.difference(a, a);
            p.product(a, a);
            p.plainIs(4, 2, 4, 6, 8, 10, 12, 14, 16);
            p.plainIs(5, 0, 0, 0, 0, 0, 0, 0, 0);
            checks.same("run()", p.run(), a == 3 ? 6 : NONE);
            p.decryptsToPlain(4);
            p.decryptsToPlain(5);
            p.isExactly(5, 3 - a, 0, 0, 0, 0, 0, 0, 0, 0);
            p.askAllGates();
        }
    }

    /** With 0, 1, 2 and 23 gates: the first numbers that are no gates on either side, and the last ones that are. */
    private void noOperand(int kind) {
        for (int count : new int[] {0, 1, 2, 23}) {
            Pair p = pairOfInputs("operands of " + count + " gates", count);
            for (int g : new int[] {MIN, -2, -1, count, count + 1, 24, MAX}) {
                refuses(p, "a gate of gate " + g, () -> addGate(p, kind, g, 0));
                refuses(p, "a gate of twice gate " + g, () -> addGate(p, kind, g, g));
                if (kind <= 3) {
                    refuses(p, "a gate of gates 0 and " + g, () -> addGate(p, kind, 0, g));
                }
            }
            p.runsThrough();
            if (count > 0) {
                checks.same("a gate of the last gate and the first", addGate(p, kind, count - 1, 0), count);
                p.runsThrough();
                p.decryptsToPlain(count);
            }
        }
    }

    private void operandsAt24Gates(int kind) {
        Pair p = pairOfInputs("23 gates", 23);
        checks.same("a gate after 23 gates", addGate(p, kind, 22, 21), 23);
        refuses(p, "a gate after 24 gates", () -> addGate(p, kind, 22, 21));
        p.runsThrough();
        refuses(p, "a gate after 24 gates", () -> addGate(p, kind, 0, 0));
        refuses(p, "a gate after 24 gates", () -> addGate(p, kind, 23, 23));
        refuses(p, "a gate after 24 gates of no gate", () -> addGate(p, kind, 24, 24));
        p.runsThrough();
        p.askAll(22);
        p.decryptsToPlain(23);
        p.askAll(23);
        p.askAll(24);
        p.cut(23);
        checks.same("a gate after 23 gates again", addGate(p, kind, 0, 1), 23);
    }

    private void differenceInItsOrder() {
        Pair p = pair("differences");
        p.put(0, 16);
        p.input(1);
        p.put(0, 0);
        p.put(1, 1);
        p.input(2);
        p.difference(0, 1);
        p.difference(1, 0);
        p.plainIs(2, 16, 16, 0, 0, 0, 0, 0, 0);
        p.plainIs(3, 1, 1, 0, 0, 0, 0, 0, 0);
        p.runsThrough();
        p.valueIs(2, 3, 66);
        p.valueIs(3, 3, 66);
    }

    private void shiftByNoPower() {
        Pair p = pairOfInputs("shift by no power", 2);
        for (int k : new int[] {MIN, -16, -2, -1, 16, 17, 24, MAX}) {
            refuses(p, "shift(0, " + k + ")", () -> p.shift(0, k));
        }
        refuses(p, "shift(2, 16)", () -> p.shift(2, 16));
        int[] powers = {0, 1, 7, 8, 14, 15};
        for (int n = 0; n < powers.length; n++) {
            checks.same("shift(0, " + powers[n] + ")", p.shift(0, powers[n]), 2 + n);
        }
        p.plainIs(2, 1, 2, 3, 4, 5, 6, 7, 8);
        p.plainIs(3, 9, 1, 2, 3, 4, 5, 6, 7);
        p.plainIs(4, 15, 14, 13, 12, 11, 10, 9, 1);
        p.plainIs(5, 16, 15, 14, 13, 12, 11, 10, 9);
        p.plainIs(6, 3, 4, 5, 6, 7, 8, 16, 15);
        p.plainIs(7, 2, 3, 4, 5, 6, 7, 8, 16);
        p.runsThrough();
        for (int g = 2; g < 8; g++) {
            p.valueIs(g, 3, 33);
        }
    }

    private void countFrom0To24() {
        Pair p = pair("count");
        for (int g = 0; g < 24; g++) {
            checks.same("count()", p.count(), g);
            p.input(g);
        }
        checks.same("count()", p.count(), 24);
        p.input(24);
        checks.same("count()", p.count(), 24);
        p.run();
        checks.same("count()", p.count(), 24);
        p.cut(24);
        checks.same("count()", p.count(), 24);
        p.cut(23);
        checks.same("count()", p.count(), 23);
        p.cut(1);
        checks.same("count()", p.count(), 1);
        p.cut(0);
        checks.same("count()", p.count(), 0);
    }

    private void cutOfEachGate() {
        for (int n = 0; n < 24; n++) {
            Pair p = pairOfInputs("a cut at gate " + n, 24);
            checks.yes("cut(" + n + ")", p.cut(n));
            checks.same("count()", p.count(), n);
            p.hasNoValue(n);
            checks.same("plain(" + n + ", 0)", p.plain(n, 0), NONE);
            if (n > 0) {
                p.valueIs(n - 1, 3, 33);
            }
            p.runsThrough();
        }
    }

    private void cutOfNoGate() {
        for (int count : new int[] {0, 1, 23, 24}) {
            Pair p = pairOfInputs("a cut of no gate", count);
            for (int n : new int[] {MIN, -1, count, count + 1, 24, 25, MAX}) {
                checks.no("cut(" + n + ")", p.cut(n));
                checks.same("count()", p.count(), count);
            }
            p.askAllGates();
            checks.same("cut(" + (count - 1) + ")", p.cut(count - 1) ? 1 : 0, count > 0 ? 1 : 0);
            checks.no("cut(" + (count - 1) + ") again", p.cut(count - 1));
        }
    }

    /** A cut among the gates that have values, at the first one that has none, and after it. */
    private void cutKeepsValuesBefore() {
        for (int n = 1; n <= 5; n++) {
            Pair p = pairOfInputs("a cut at gate " + n, 3);
            p.sum(0, 1);
            p.product(2, 3);
            p.sum(4, 4);
            p.cut(n);
            for (int g = 0; g < Math.min(n, 3); g++) {
                p.valueIs(g, 3, 33);
            }
            for (int g = 3; g < n; g++) {
                p.hasNoValue(g);
            }
            p.runsThrough();
            p.askAllGates();
        }
    }

    /** A gate under an old number has neither the old plain polynomial nor the old value, before run nor after it. */
    private void gatesAfterACut() {
        Pair p = pairOfInputs("gates after a cut", 2);
        p.product(0, 1);
        p.sum(2, 2);
        p.lowered(3);
        p.runsThrough();
        checks.yes("cut(2)", p.cut(2));
        refuses(p, "sum(0, 2)", () -> p.sum(0, 2));
        checks.same("shift(0, 1)", p.shift(0, 1), 2);
        p.hasNoValue(2);
        p.plainIs(2, 9, 1, 2, 3, 4, 5, 6, 7);
        checks.same("lowered(2)", p.lowered(2), 3);
        checks.same("difference(2, 3)", p.difference(2, 3), 4);
        p.hasNoValue(3);
        p.hasNoValue(4);
        p.plainIs(4, 0, 0, 0, 0, 0, 0, 0, 0);
        p.runsThrough();
        p.valueIs(2, 3, 33);
        p.valueIs(3, 2, 77);
        p.valueIs(4, 2, 154);
        inputsAfterACut();
    }

    private void inputsAfterACut() {
        Pair p = pairOfInputs("inputs after a cut", 24);
        p.cut(0);
        p.message(0, 0, 0, 0, 0, 0, 0, 16);
        for (int g = 0; g < 24; g++) {
            checks.same("input(7)", p.input(7), g);
            p.hasNoValue(g);
            p.plainIs(g, 0, 0, 0, 0, 0, 0, 0, 16);
        }
        p.runsThrough();
        p.valueIs(0, 3, 33);
        p.valueIs(23, 3, 33);
        checks.same("part(23, 1, 0)", p.part(23, 1, 0), p.part(0, 1, 0));
    }

    private void runOfNoGates() {
        Pair p = pair("run of no gates");
        checks.same("run()", p.run(), NONE);
        checks.same("run()", p.run(), NONE);
        p.input(1);
        checks.same("run()", p.run(), NONE);
        p.cut(0);
        checks.same("run()", p.run(), NONE);
        checks.same("count()", p.count(), 0);
    }

    private void runOfNewGatesOnly() {
        Pair p = pair("run of new gates");
        p.put(0, 1);
        p.input(1);
        p.hasNoValue(0);
        checks.same("run()", p.run(), NONE);
        long part = p.part(0, 0, 0);
        p.put(0, 2);
        p.sum(0, 0);
        p.input(1);
        p.hasNoValue(1);
        p.hasNoValue(2);
        checks.same("run()", p.run(), NONE);
        checks.same("part(0, 0, 0)", p.part(0, 0, 0), part);
        p.valueIs(1, 3, 66);
        p.valueIs(2, 3, 33);
        checks.same("run()", p.run(), NONE);
        p.valueIs(1, 3, 66);
    }

    /** Of two gates that are exhausted the first one is told; gates after it could have values, but get none. */
    private void runUpToTheFirstExhausted() {
        Pair p = pairOfInputs("up to the first exhausted gate", 1);
        p.loweredTo(0, 0);
        p.lowered(3);
        p.sum(0, 0);
        p.lowered(3);
        p.input(1);
        p.sum(4, 0);
        checks.same("run()", p.run(), 4);
        p.valueIs(3, 0, 77);
        for (int g = 4; g <= 8; g++) {
            p.hasNoValue(g);
        }
        p.plainIs(5, 2, 4, 6, 8, 10, 12, 14, 16);
        checks.yes("cut(5)", p.cut(5));
        checks.same("run()", p.run(), 4);
        checks.yes("cut(4)", p.cut(4));
        checks.same("run()", p.run(), NONE);
        p.sum(0, 0);
        p.lowered(3);
        checks.same("run()", p.run(), 5);
        p.valueIs(4, 3, 66);
        p.hasNoValue(5);
    }

    private void runUpToTheLastGate() {
        Pair p = pairOfInputs("the last of 24 gates is exhausted", 20);
        p.loweredTo(0, 19);
        checks.same("lowered(22)", p.lowered(22), 23);
        checks.same("run()", p.run(), 23);
        p.valueIs(22, 0, 77);
        p.hasNoValue(23);
        p.cut(23);
        p.shift(22, 15);
        checks.same("run()", p.run(), NONE);
        p.valueIs(23, 0, 77);
    }

    private void runAgainAfterExhaustion() {
        Pair p = pairOfInputs("run again", 1);
        p.product(0, 0);
        p.product(1, 1);
        p.product(2, 2);
        p.product(3, 3);
        p.sum(0, 0);
        for (int times = 0; times < 3; times++) {
            checks.same("run()", p.run(), 4);
            p.valueIs(3, 1, 8 * 645 * 645 + 8471168);
            p.hasNoValue(4);
            p.hasNoValue(5);
        }
        checks.same("sum(0, 1)", p.sum(0, 1), 6);
        checks.same("run()", p.run(), 4);
        p.hasNoValue(6);
        p.askAllGates();
    }

    /** Gates 0 to 3 have values, gate 4 is exhausted, gate 5 comes after it, and a gate 6 was cut away. */
    private Pair pairWithAndWithoutValues(String name) {
        Pair p = pairOfInputs(name, 1);
        p.loweredTo(0, 0);
        p.lowered(3);
        p.sum(0, 0);
        p.sum(0, 1);
        p.run();
        p.cut(6);
        return p;
    }

    private void levelOfNoValue() {
        Pair p = pairWithAndWithoutValues("level");
        for (int g : GATES_WITHOUT_VALUES) {
            checks.same("level(" + g + ")", p.level(g), NONE);
        }
        for (int g = 0; g < 4; g++) {
            checks.same("level(" + g + ")", p.level(g), 3 - g);
        }
        p.cut(3);
        checks.same("level(3)", p.level(3), NONE);
        p.sum(0, 0);
        checks.same("level(3)", p.level(3), NONE);
        p.run();
        checks.same("level(3)", p.level(3), 3);
    }

    private void meterOfNoValue() {
        Pair p = pairWithAndWithoutValues("meter");
        for (int g : GATES_WITHOUT_VALUES) {
            checks.same("meter(" + g + ")", p.meter(g), NONE);
        }
        for (int g = 0; g < 4; g++) {
            checks.same("meter(" + g + ")", p.meter(g), g == 0 ? 33 : 77);
        }
        p.cut(3);
        checks.same("meter(3)", p.meter(3), NONE);
        p.sum(0, 0);
        checks.same("meter(3)", p.meter(3), NONE);
        p.run();
        checks.same("meter(3)", p.meter(3), 66);
    }

    private void noiseOfNoValue() {
        Pair p = pairWithAndWithoutValues("noise");
        for (int g : GATES_WITHOUT_VALUES) {
            checks.same("noise(" + g + ")", p.noise(g), NONE);
        }
        for (int g = 0; g < 4; g++) {
            checks.yes("noise(" + g + ")", p.noise(g) >= 0 && p.noise(g) <= p.meter(g));
        }
        p.cut(3);
        checks.same("noise(3)", p.noise(3), NONE);
        p.difference(0, 0);
        checks.same("noise(3)", p.noise(3), NONE);
        p.run();
        checks.same("noise(3)", p.noise(3), 0);
    }

    /** The least and the greatest coefficient at each level, and all those of a drawn polynomial between them. */
    private void partsWithinTheirModulus() {
        for (int level = 0; level <= 3; level++) {
            long modulus = ReferenceRing.modulus(level).longValueExact();
            Pair p = pair("parts at level " + level);
            int edges = p.loweredTo(level, p.exact(0, -1, 1, -8, 8, 0, 0, -1));
            int drawn = p.loweredTo(level, 0);
            p.runsThrough();
            checks.same("the least part", p.part(edges, 0, 0), 0);
            checks.same("the greatest part", p.part(edges, 0, 1), modulus - 1);
            checks.same("the greatest part", p.part(edges, 0, 7), modulus - 1);
            for (int i = 0; i < 8; i++) {
                for (int which = 0; which <= 1; which++) {
                    long part = p.part(drawn, which, i);
                    checks.yes("part(" + drawn + ", " + which + ", " + i + ")", part >= 0 && part < modulus);
                }
            }
        }
    }

    private void partOfNoValue() {
        Pair p = pairWithAndWithoutValues("part");
        for (int g : GATES_WITHOUT_VALUES) {
            checks.same("part(" + g + ", 0, 0)", p.part(g, 0, 0), NONE);
            checks.same("part(" + g + ", 1, 7)", p.part(g, 1, 7), NONE);
        }
        for (int g = 0; g < 4; g++) {
            checks.yes("part(" + g + ", 0, 0)", p.part(g, 0, 0) >= 0);
            checks.yes("part(" + g + ", 1, 7)", p.part(g, 1, 7) >= 0);
        }
    }

    private void noSuchPart() {
        Pair p = pairOfInputs("no such part", 1);
        for (int which : new int[] {MIN, -2, -1, 2, 3, MAX}) {
            for (int i = 0; i < 8; i++) {
                checks.same("part(0, " + which + ", " + i + ")", p.part(0, which, i), NONE);
            }
        }
        for (int i = 0; i < 8; i++) {
            checks.yes("part(0, 0, " + i + ")", p.part(0, 0, i) >= 0);
            checks.yes("part(0, 1, " + i + ")", p.part(0, 1, i) >= 0);
        }
    }

    private void noSuchCoefficientOfAPart() {
        Pair p = pairOfInputs("no such coefficient of a part", 1);
        for (int i : NO_COEFFICIENTS) {
            checks.same("part(0, 0, " + i + ")", p.part(0, 0, i), NONE);
            checks.same("part(0, 1, " + i + ")", p.part(0, 1, i), NONE);
            checks.same("part(0, 2, " + i + ")", p.part(0, 2, i), NONE);
        }
    }

    private void decryptedOfNoValue() {
        Pair p = pairWithAndWithoutValues("decrypted");
        for (int g : GATES_WITHOUT_VALUES) {
            checks.same("decrypted(" + g + ", 0)", p.decrypted(g, 0), NONE);
            checks.same("decrypted(" + g + ", 7)", p.decrypted(g, 7), NONE);
        }
        for (int g = 0; g < 4; g++) {
            checks.same("decrypted(" + g + ", 0)", p.decrypted(g, 0), 1);
            checks.same("decrypted(" + g + ", 7)", p.decrypted(g, 7), 8);
        }
    }

    private void noSuchCoefficientOfADecryption() {
        Pair p = pairOfInputs("no such coefficient of a decryption", 1);
        for (int i : NO_COEFFICIENTS) {
            checks.same("decrypted(0, " + i + ")", p.decrypted(0, i), NONE);
            checks.same("decrypted(1, " + i + ")", p.decrypted(1, i), NONE);
        }
        checks.same("decrypted(0, 0)", p.decrypted(0, 0), 1);
        checks.same("decrypted(0, 7)", p.decrypted(0, 7), 8);
    }

    /** 16 + 1 goes around to 0, 0 less 1 to 16, and 16 times 16 is 1. */
    private void plainFrom0To16() {
        Pair p = pair("plain from 0 to 16");
        p.message(16, 16, 16, 0, 0, 0, 0, 0);
        p.input(1);
        p.message(1, 0, 16, 1, 0, 0, 0, 0);
        p.input(2);
        p.message(16, 0, 0, 0, 0, 0, 0, 0);
        p.input(3);
        p.sum(0, 1);
        p.difference(0, 1);
        p.difference(1, 0);
        p.product(0, 2);
        p.shift(0, 8);
        p.plainIs(3, 0, 16, 15, 1, 0, 0, 0, 0);
        p.plainIs(4, 15, 16, 0, 16, 0, 0, 0, 0);
        p.plainIs(5, 2, 1, 0, 1, 0, 0, 0, 0);
        p.plainIs(6, 1, 1, 1, 0, 0, 0, 0, 0);
        p.plainIs(7, 1, 1, 1, 0, 0, 0, 0, 0);
        p.runsThrough();
        for (int g = 0; g < 8; g++) {
            p.decryptsToPlain(g);
        }
    }

    /** A gate without a value has its plain polynomial nevertheless. */
    private void plainOfNoGate() {
        Pair p = pairWithAndWithoutValues("plain");
        for (int g : new int[] {MIN, -2, -1, 6, 7, 23, 24, MAX}) {
            checks.same("plain(" + g + ", 0)", p.plain(g, 0), NONE);
            checks.same("plain(" + g + ", 7)", p.plain(g, 7), NONE);
        }
        for (int g = 0; g <= 4; g++) {
            p.plainIs(g, 1, 2, 3, 4, 5, 6, 7, 8);
        }
        p.plainIs(5, 2, 4, 6, 8, 10, 12, 14, 16);
    }

    private void noSuchCoefficientOfAPlain() {
        Pair p = pairOfInputs("no such coefficient of a plain polynomial", 1);
        for (int i : NO_COEFFICIENTS) {
            checks.same("plain(0, " + i + ")", p.plain(0, i), NONE);
            checks.same("plain(1, " + i + ")", p.plain(1, i), NONE);
        }
        checks.same("plain(0, 0)", p.plain(0, 0), 1);
        checks.same("plain(0, 7)", p.plain(0, 7), 8);
    }

    /** Secrets that are -1, 0 and 1 throughout. */
    private void secretFrom0To7() {
        int[] seeds = {17026, 2256, 5809};
        for (int s = -1; s <= 1; s++) {
            LevelledRing ring = new LevelledRing(seeds[s + 1]);
            for (int i = 0; i < 8; i++) {
                checks.same("secret(" + i + ")", ring.secret(i), s);
            }
        }
    }

    private void secretOfNoCoefficient() {
        for (int seed : new int[] {17026, 5809}) {
            LevelledRing ring = new LevelledRing(seed);
            for (int i : NO_COEFFICIENTS) {
                checks.same("secret(" + i + ")", ring.secret(i), 0);
            }
        }
    }
}
