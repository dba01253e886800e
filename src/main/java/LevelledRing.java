/**
 * Circuits that are worked out over hidden polynomials, with an account of the noise in each value.
 *
 * <p>All rows are made by the constructor and used again by every later call: no other call makes an object.
 */
public final class LevelledRing {
    public static final int NONE = -1;

    private static final int SIZE = 8;
    private static final int T = 17;
    private static final int LEVELS = 4;
    private static final int TOP = LEVELS - 1;
    private static final int MOST_GATES = 24;
    private static final int TURNS = 2 * SIZE;

    private static final int INPUT_METER = 33;
    private static final int LOWERING_METER = 77;
    private static final int LOUD_METER = 1000;

    /** A coefficient of a product is a sum of this many products. */
    private static final int PRODUCT_METER = SIZE;

    /** And in the keys each of them brings T times an error of at most 1. */
    private static final int SWITCHING_METER = SIZE * T;

    private static final int[] PRIMES = {32369, 29921, 28289, 26113};

    /** Q(l), the product of the primes up to ql. */
    private static final long[] MODULI = {32369L, 968512849L, 27398259985361L, 715450762997731793L};

    /** At k, the inverse of Q(k - 1) modulo qk; there is no Q(-1), so that the first one is never used. */
    private static final int[] MODULUS_INVERSES = {1, 13286, 14579, 20255};

    /** At l * LEVELS + k, the inverse of ql modulo qk; only those with k below l are ever used. */
    private static final int[] PRIME_INVERSES = {
        0, 0, 0, 0,
        17996, 0, 0, 0,
        30219, 9992, 0, 0,
        15486, 21380, 13, 0
    };

    private final Drawing drawing = new Drawing();
    private final Keys keys;
    private final Poly message = new Poly(true);
    private final Gate[] gates = new Gate[MOST_GATES];
    private int gateCount = 0;

    /** The gates below this one have a value, the others have none: values come in order and go by cuts. */
    private int valueCount = 0;

    private final Value left = new Value();
    private final Value right = new Value();
    private final Poly square = new Poly(false);
    private final Poly digit = new Poly(false);
    private final Poly opened = new Poly(false);

    public LevelledRing(int seed) {
        drawing.start(seed);
        keys = new Keys(drawing);
        for (int g = 0; g < MOST_GATES; g++) {
            gates[g] = new Gate();
        }
    }

    public boolean put(int i, int v) {
        if (!isCoefficient(i)) {
            return false;
        }
        message.c[i] = modulo(v, T);
        return true;
    }

    public int input(int seed) {
        if (gateCount >= MOST_GATES) {
            return NONE;
        }
        Gate gate = gates[gateCount];
        gate.become(Kind.INPUT, NONE, NONE, seed);
        gate.plain.copyFrom(message);
        return keepGate();
    }

    public int sum(int a, int b) {
        return addGate(Kind.SUM, a, b, 0);
    }

    public int difference(int a, int b) {
        return addGate(Kind.DIFFERENCE, a, b, 0);
    }

    public int product(int a, int b) {
        return addGate(Kind.PRODUCT, a, b, 0);
    }

    public int shift(int a, int k) {
        if (k < 0 || k >= TURNS) {
            return NONE;
        }
        return addGate(Kind.SHIFT, a, a, k);
    }

    public int lowered(int a) {
        return addGate(Kind.LOWERED, a, a, 0);
    }

    public int count() {
        return gateCount;
    }

    public boolean cut(int n) {
        if (!isGate(n)) {
            return false;
        }
        gateCount = n;
        valueCount = Math.min(valueCount, n);
        return true;
    }

    public int run() {
        for (int g = valueCount; g < gateCount; g++) {
            if (!giveValue(gates[g])) {
                return g;
            }
            valueCount = g + 1;
        }
        return NONE;
    }

    public int level(int g) {
        return hasValue(g) ? gates[g].value.level : NONE;
    }

    public long meter(int g) {
        return hasValue(g) ? gates[g].value.meter : NONE;
    }

    public long noise(int g) {
        if (!hasValue(g)) {
            return NONE;
        }
        Value value = gates[g].value;
        openValue(value);
        long greatest = 0;
        for (int i = 0; i < SIZE; i++) {
            greatest = Math.max(greatest, Math.abs(opened.centredCoefficient(i, value.level)));
        }
        return greatest;
    }

    public long part(int g, int which, int i) {
        if (!hasValue(g) || which < 0 || which > 1 || !isCoefficient(i)) {
            return NONE;
        }
        Value value = gates[g].value;
        Poly poly = which == 0 ? value.c0 : value.c1;
        return poly.wholeCoefficient(i, value.level);
    }

    public int decrypted(int g, int i) {
        if (!hasValue(g) || !isCoefficient(i)) {
            return NONE;
        }
        Value value = gates[g].value;
        openValue(value);
        return modulo(opened.centredCoefficient(i, value.level), T);
    }

    public int plain(int g, int i) {
        return isGate(g) && isCoefficient(i) ? gates[g].plain.c[i] : NONE;
    }

    public int secret(int i) {
        return isCoefficient(i) ? (int) keys.secret.centredCoefficient(i, 0) : 0;
    }

    private static boolean isCoefficient(int i) {
        return i >= 0 && i < SIZE;
    }

    private boolean isGate(int g) {
        return g >= 0 && g < gateCount;
    }

    private boolean hasValue(int g) {
        return g >= 0 && g < valueCount;
    }

    private static int modulo(long number, int modulus) {
        int rest = (int) (number % modulus);
        return rest < 0 ? rest + modulus : rest;
    }

    private static long centred(long number, long modulus) {
        return number > (modulus - 1) / 2 ? number - modulus : number;
    }

    private int addGate(Kind kind, int a, int b, int number) {
        if (!isGate(a) || !isGate(b) || gateCount >= MOST_GATES) {
            return NONE;
        }
        Gate gate = gates[gateCount];
        gate.become(kind, a, b, number);
        setPlain(gate, gates[a].plain, gates[b].plain);
        return keepGate();
    }

    private int keepGate() {
        gateCount++;
        return gateCount - 1;
    }

    private static void setPlain(Gate gate, Poly x, Poly y) {
        switch (gate.kind) {
            case SUM:
                gate.plain.setSum(x, 1, y, 0);
                break;
            case DIFFERENCE:
                gate.plain.setSum(x, -1, y, 0);
                break;
            case PRODUCT:
                gate.plain.setZero();
                gate.plain.addProduct(1, x, y, 0);
                break;
            case SHIFT:
                gate.plain.setTurned(x, gate.number, 0);
                break;
            default:
                gate.plain.copyFrom(x);
                break;
        }
    }

    /** False when the gate is exhausted; what then stands in its value is no value. */
    private boolean giveValue(Gate gate) {
        switch (gate.kind) {
            case SUM:
                return takeOperands(gate) && giveSum(gate.value, 1);
            case DIFFERENCE:
                return takeOperands(gate) && giveSum(gate.value, -1);
            case PRODUCT:
                return takeOperands(gate) && quietenOperands() && giveProduct(gate.value);
            case SHIFT:
                turnValue(gate.value, gates[gate.a].value, gate.number);
                return true;
            case LOWERED:
                gate.value.copyFrom(gates[gate.a].value);
                return gate.value.lowerOnce();
            default:
                hideMessage(gate.value, gate.plain, gate.number);
                return true;
        }
    }

    private void hideMessage(Value value, Poly hidden, int seed) {
        value.level = TOP;
        value.meter = INPUT_METER;
        drawing.start(seed);
        keys.drawHiddenZero(drawing, value.c0, value.c1);
        value.c0.addSmall(hidden);
    }

    private static void turnValue(Value value, Value from, int turns) {
        value.level = from.level;
        value.meter = from.meter;
        value.c0.setTurned(from.c0, turns, from.level);
        value.c1.setTurned(from.c1, turns, from.level);
    }

    /** Takes copies of the gate's operands, lowered to one level; false when a meter is too great for that. */
    private boolean takeOperands(Gate gate) {
        left.copyFrom(gates[gate.a].value);
        right.copyFrom(gates[gate.b].value);
        return left.lowerTo(right.level) && right.lowerTo(left.level);
    }

    private boolean quietenOperands() {
        for (int l = left.level; l > 0 && (left.meter > LOUD_METER || right.meter > LOUD_METER); l--) {
            if (!left.lowerOnce() || !right.lowerOnce()) {
                return false;
            }
        }
        return true;
    }

    private boolean giveSum(Value value, int sign) {
        value.level = left.level;
        value.meter = left.meter + right.meter;
        if (value.isTooGreat()) {
            return false;
        }
        value.c0.setSum(left.c0, sign, right.c0, value.level);
        value.c1.setSum(left.c1, sign, right.c1, value.level);
        return true;
    }

    private boolean giveProduct(Value value) {
        value.level = left.level;
        value.meter = PRODUCT_METER * left.meter * right.meter + switchingMeter(left.level);
        if (value.isTooGreat()) {
            return false;
        }
        multiplyOperands(value);
        switchSquare(value);
        return true;
    }

    private static long switchingMeter(int level) {
        long greatestDigits = 0;
        for (int k = 0; k <= level; k++) {
            greatestDigits += PRIMES[k] - 1;
        }
        return SWITCHING_METER * greatestDigits;
    }

    private void multiplyOperands(Value value) {
        int top = value.level;
        value.c0.setZero();
        value.c0.addProduct(1, left.c0, right.c0, top);
        value.c1.setZero();
        value.c1.addProduct(1, left.c0, right.c1, top);
        value.c1.addProduct(1, left.c1, right.c0, top);
        square.setZero();
        square.addProduct(1, left.c1, right.c1, top);
    }

    /** Brings the part that goes with S * S back to a pair, digit by digit, so that the keys' noise stays small. */
    private void switchSquare(Value value) {
        int top = value.level;
        for (int j = 0; j <= top; j++) {
            digit.setFromRow(square, j, top);
            value.c0.addProduct(1, digit, keys.b[j], top);
            value.c1.addProduct(1, digit, keys.a[j], top);
        }
    }

    private void openValue(Value value) {
        opened.copyFrom(value.c0);
        opened.addProduct(1, value.c1, keys.secret, value.level);
    }

    private enum Kind { INPUT, SUM, DIFFERENCE, PRODUCT, SHIFT, LOWERED }

    private static final class Drawing {
        private int z = 0;

        void start(int seed) {
            z = seed;
        }

        int draw() {
            z = z * 1664525 + 1013904223;
            return z >>> 8;
        }
    }

    /**
     * A polynomial modulo 17 in one row, or modulo Q(l) in the rows 0 .. l, of which row k is the polynomial modulo qk.
     * Rows above l may hold anything; so most methods are told the top row that counts.
     */
    private static final class Poly {
        private final boolean small;
        final int[] c;

        Poly(boolean small) {
            this.small = small;
            c = new int[small ? SIZE : SIZE * LEVELS];
        }

        private int rowModulus(int row) {
            return small ? T : PRIMES[row];
        }

        void setZero() {
            for (int at = 0; at < c.length; at++) {
                c[at] = 0;
            }
        }

        void copyFrom(Poly x) {
            System.arraycopy(x.c, 0, c, 0, Math.min(c.length, x.c.length));
        }

        void drawUniform(Drawing drawing) {
            for (int i = 0; i < SIZE; i++) {
                for (int k = 0; k < LEVELS; k++) {
                    c[k * SIZE + i] = drawing.draw() % PRIMES[k];
                }
            }
        }

        /** The factor times what SMALL draws. */
        void drawSmall(Drawing drawing, int factor) {
            for (int i = 0; i < SIZE; i++) {
                int coefficient = factor * (drawing.draw() % 3 - 1);
                for (int k = 0; k < LEVELS; k++) {
                    c[k * SIZE + i] = modulo(coefficient, PRIMES[k]);
                }
            }
        }

        void addSmall(Poly x) {
            for (int k = 0; k < LEVELS; k++) {
                for (int i = 0; i < SIZE; i++) {
                    c[k * SIZE + i] = modulo(c[k * SIZE + i] + x.c[i], PRIMES[k]);
                }
            }
        }

        void addRow(Poly x, int row) {
            for (int at = row * SIZE; at < (row + 1) * SIZE; at++) {
                c[at] = modulo(c[at] + x.c[at], rowModulus(row));
            }
        }

        /** Becomes the polynomial whose coefficients are the whole numbers that stand in one row of x. */
        void setFromRow(Poly x, int row, int top) {
            for (int k = 0; k <= top; k++) {
                for (int i = 0; i < SIZE; i++) {
                    c[k * SIZE + i] = x.c[row * SIZE + i] % rowModulus(k);
                }
            }
        }

        void setSum(Poly x, int sign, Poly y, int top) {
            for (int k = 0; k <= top; k++) {
                int modulus = rowModulus(k);
                for (int at = k * SIZE; at < (k + 1) * SIZE; at++) {
                    c[at] = modulo(x.c[at] + sign * y.c[at], modulus);
                }
            }
        }

        void addProduct(int sign, Poly x, Poly y, int top) {
            for (int k = 0; k <= top; k++) {
                int modulus = rowModulus(k);
                for (int i = 0; i < SIZE; i++) {
                    int at = k * SIZE + i;
                    c[at] = modulo(c[at] + sign * productCoefficient(x, y, k * SIZE, i), modulus);
                }
            }
        }

        /** Not brought to the modulus: eight products of two numbers below 2^15 are far from a long's bounds. */
        private static long productCoefficient(Poly x, Poly y, int start, int i) {
            long total = 0;
            for (int j = 0; j <= i; j++) {
                total += (long) x.c[start + j] * y.c[start + i - j];
            }
            for (int j = i + 1; j < SIZE; j++) {
                total -= (long) x.c[start + j] * y.c[start + SIZE + i - j];
            }
            return total;
        }

        void setTurned(Poly x, int turns, int top) {
            for (int k = 0; k <= top; k++) {
                int modulus = rowModulus(k);
                for (int i = 0; i < SIZE; i++) {
                    int power = (i + turns) % TURNS;
                    int coefficient = x.c[k * SIZE + i];
                    c[k * SIZE + power % SIZE] = power < SIZE ? coefficient : modulo(-coefficient, modulus);
                }
            }
        }

        /** From modulo Q(top) to modulo Q(top - 1); what decrypts stays, since each prime is 1 modulo 17. */
        void lowerFrom(int top) {
            int prime = PRIMES[top];
            for (int i = 0; i < SIZE; i++) {
                int d = (int) centred(c[top * SIZE + i], prime);
                int k = (int) centred(modulo(-d, T), T);
                long excess = d + (long) k * prime;
                for (int row = 0; row < top; row++) {
                    int at = row * SIZE + i;
                    c[at] = modulo((c[at] - excess) * PRIME_INVERSES[top * LEVELS + row], PRIMES[row]);
                }
            }
        }

        /** The number from 0 to Q(top) - 1 that is, modulo each prime, what the rows say. */
        long wholeCoefficient(int i, int top) {
            long whole = c[i];
            for (int k = 1; k <= top; k++) {
                long lacking = modulo(c[k * SIZE + i] - whole, PRIMES[k]);
                whole += MODULI[k - 1] * (lacking * MODULUS_INVERSES[k] % PRIMES[k]);
            }
            return whole;
        }

        long centredCoefficient(int i, int top) {
            return centred(wholeCoefficient(i, top), MODULI[top]);
        }
    }

    private static final class Keys {
        final Poly secret = new Poly(false);
        final Poly[] a = new Poly[LEVELS];
        final Poly[] b = new Poly[LEVELS];

        Keys(Drawing drawing) {
            secret.drawSmall(drawing, 1);
            Poly secretSquare = new Poly(false);
            secretSquare.addProduct(1, secret, secret, TOP);
            for (int j = 0; j < LEVELS; j++) {
                a[j] = new Poly(false);
                b[j] = new Poly(false);
                drawHiddenZero(drawing, b[j], a[j]);
                // H(j) is 1 in row j and 0 in the others.
                b[j].addRow(secretSquare, j);
            }
        }

        /** The pair T * E - A * S, A of a drawn A and E. */
        void drawHiddenZero(Drawing drawing, Poly c0, Poly c1) {
            c1.drawUniform(drawing);
            c0.drawSmall(drawing, T);
            c0.addProduct(-1, c1, secret, TOP);
        }
    }

    private static final class Value {
        int level = 0;
        long meter = 0;
        final Poly c0 = new Poly(false);
        final Poly c1 = new Poly(false);

        void copyFrom(Value x) {
            level = x.level;
            meter = x.meter;
            c0.copyFrom(x.c0);
            c1.copyFrom(x.c1);
        }

        boolean isTooGreat() {
            return meter > (MODULI[level] - 1) / 2;
        }

        /** False when there is no lower level or the new meter is too great. */
        boolean lowerOnce() {
            if (level <= 0) {
                return false;
            }
            meter = meter / PRIMES[level] + LOWERING_METER;
            c0.lowerFrom(level);
            c1.lowerFrom(level);
            level--;
            return !isTooGreat();
        }

        boolean lowerTo(int target) {
            for (int l = level; l > target; l--) {
                if (!lowerOnce()) {
                    return false;
                }
            }
            return true;
        }
    }

    private static final class Gate {
        Kind kind = Kind.INPUT;
        int a = NONE;
        int b = NONE;

        /** The seed of an INPUT, the k of a SHIFT. */
        int number = 0;

        final Poly plain = new Poly(true);
        final Value value = new Value();

        void become(Kind newKind, int newA, int newB, int newNumber) {
            kind = newKind;
            a = newA;
            b = newB;
            number = newNumber;
        }
    }
}
