import java.math.BigInteger;
import java.util.ArrayList;
import java.util.List;

/**
 * The document's words done literally, over whole numbers without bounds: slow, and in no way like the program inside,
 * so that a slip of the one is not repeated by the other.
 */
final class ReferenceRing {
    static final int NONE = -1;
    private static final BigInteger T = BigInteger.valueOf(17);
    private static final long[] Q = {32369, 29921, 28289, 26113};

    private int z;
    private final BigInteger[] secret;
    private final BigInteger[][] a = new BigInteger[4][];
    private final BigInteger[][] b = new BigInteger[4][];
    private final BigInteger[] message = zero();
    private final List<Gate> gates = new ArrayList<>();

    private static final class Value {
        final int level;
        final BigInteger[] c0;
        final BigInteger[] c1;
        final BigInteger meter;

        Value(int level, BigInteger[] c0, BigInteger[] c1, BigInteger meter) {
            this.level = level;
            this.c0 = mod(c0, modulus(level));
            this.c1 = mod(c1, modulus(level));
            this.meter = meter;
        }

        boolean tooGreat() {
            return meter.compareTo(modulus(level).subtract(BigInteger.ONE).shiftRight(1)) > 0;
        }
    }

    private static final class Gate {
        final String kind;
        final int x;
        final int y;
        final BigInteger[] plain;
        Value value = null;

        Gate(String kind, int x, int y, BigInteger[] plain) {
            this.kind = kind;
            this.x = x;
            this.y = y;
            this.plain = mod(plain, T);
        }
    }

    ReferenceRing(int seed) {
        z = seed;
        secret = small();
        for (int j = 0; j < 4; j++) {
            a[j] = uniform();
            BigInteger[] e = small();
            BigInteger[] hss = scaled(times(secret, secret), unit(j));
            b[j] = mod(minus(plus(hss, scaled(e, T)), times(a[j], secret)), modulus(3));
        }
    }

    static BigInteger modulus(int level) {
        BigInteger product = BigInteger.ONE;
        for (int k = 0; k <= level; k++) {
            product = product.multiply(prime(k));
        }
        return product;
    }

    private static BigInteger prime(int k) {
        return BigInteger.valueOf(Q[k]);
    }

    /** H(j), which is 1 modulo qj and 0 modulo the others. */
    private static BigInteger unit(int j) {
        BigInteger others = modulus(3).divide(prime(j));
        return others.multiply(others.modInverse(prime(j)));
    }

    private static BigInteger[] zero() {
        BigInteger[] p = new BigInteger[8];
        java.util.Arrays.fill(p, BigInteger.ZERO);
        return p;
    }

    private static BigInteger[] mod(BigInteger[] p, BigInteger m) {
        BigInteger[] r = new BigInteger[8];
        for (int i = 0; i < 8; i++) {
            r[i] = p[i].mod(m);
        }
        return r;
    }

    private static BigInteger[] plus(BigInteger[] p, BigInteger[] s) {
        BigInteger[] r = new BigInteger[8];
        for (int i = 0; i < 8; i++) {
            r[i] = p[i].add(s[i]);
        }
        return r;
    }

    private static BigInteger[] scaled(BigInteger[] p, BigInteger factor) {
        BigInteger[] r = new BigInteger[8];
        for (int i = 0; i < 8; i++) {
            r[i] = p[i].multiply(factor);
        }
        return r;
    }

    private static BigInteger[] minus(BigInteger[] p, BigInteger[] s) {
        return plus(p, scaled(s, BigInteger.ONE.negate()));
    }

    private static BigInteger[] times(BigInteger[] p, BigInteger[] s) {
        BigInteger[] r = zero();
        for (int i = 0; i < 8; i++) {
            r = plus(r, scaled(turned(s, i), p[i]));
        }
        return r;
    }

    /** Times x^k, by k steps of times x. */
    private static BigInteger[] turned(BigInteger[] p, int k) {
        BigInteger[] r = p;
        for (int step = 0; step < k; step++) {
            BigInteger[] next = new BigInteger[8];
            next[0] = r[7].negate();
            System.arraycopy(r, 0, next, 1, 7);
            r = next;
        }
        return r;
    }

    private static BigInteger centred(BigInteger c, BigInteger m) {
        BigInteger r = c.mod(m);
        return r.shiftLeft(1).compareTo(m) > 0 ? r.subtract(m) : r;
    }

    private int draw() {
        z = z * 1664525 + 1013904223;
        return z >>> 8;
    }

    private BigInteger[] small() {
        BigInteger[] p = new BigInteger[8];
        for (int i = 0; i < 8; i++) {
            p[i] = BigInteger.valueOf(draw() % 3 - 1);
        }
        return p;
    }

    private BigInteger[] uniform() {
        BigInteger[] p = new BigInteger[8];
        for (int i = 0; i < 8; i++) {
            BigInteger sum = BigInteger.ZERO;
            for (int k = 0; k < 4; k++) {
                sum = sum.add(unit(k).multiply(BigInteger.valueOf(draw() % Q[k])));
            }
            p[i] = sum.mod(modulus(3));
        }
        return p;
    }

    private static BigInteger lowerCoefficient(BigInteger c, int level) {
        BigInteger q = prime(level);
        BigInteger d = centred(c, q);
        int k = -8;
        while (d.add(BigInteger.valueOf(k)).mod(T).signum() != 0) {
            k++;
        }
        BigInteger[] divided = c.subtract(d).subtract(q.multiply(BigInteger.valueOf(k))).divideAndRemainder(q);
        if (k > 8 || divided[1].signum() != 0) {
            throw new IllegalStateException("the document's division leaves a rest");
        }
        return divided[0].mod(modulus(level - 1));
    }

    /** Null when there is no value to lower, no lower level, or the new meter is too great. */
    private static Value lower(Value v) {
        if (v == null || v.level == 0) {
            return null;
        }
        BigInteger[] c0 = new BigInteger[8];
        BigInteger[] c1 = new BigInteger[8];
        for (int i = 0; i < 8; i++) {
            c0[i] = lowerCoefficient(v.c0[i], v.level);
            c1[i] = lowerCoefficient(v.c1[i], v.level);
        }
        return kept(new Value(v.level - 1, c0, c1, v.meter.divide(prime(v.level)).add(BigInteger.valueOf(77))));
    }

    private static Value kept(Value v) {
        return v.tooGreat() ? null : v;
    }

    private Value valueOf(Gate gate) {
        if (gate.kind.equals("input")) {
            z = gate.x;
            BigInteger[] c1 = uniform();
            BigInteger[] c0 = minus(plus(gate.plain, scaled(small(), T)), times(c1, secret));
            return new Value(3, c0, c1, BigInteger.valueOf(33));
        }
        Value v = gates.get(gate.x).value;
        if (gate.kind.equals("lowered")) {
            return lower(v);
        }
        if (gate.kind.equals("shift")) {
            return new Value(v.level, turned(v.c0, gate.y), turned(v.c1, gate.y), v.meter);
        }
        Value w = gates.get(gate.y).value;
        while (v != null && w != null && v.level != w.level) {
            if (v.level > w.level) {
                v = lower(v);
            } else {
                w = lower(w);
            }
        }
        if (v == null || w == null) {
            return null;
        }
        if (gate.kind.equals("sum")) {
            return kept(new Value(v.level, plus(v.c0, w.c0), plus(v.c1, w.c1), v.meter.add(w.meter)));
        }
        if (gate.kind.equals("difference")) {
            return kept(new Value(v.level, minus(v.c0, w.c0), minus(v.c1, w.c1), v.meter.add(w.meter)));
        }
        return productOf(v, w);
    }

    private static boolean loud(Value v) {
        return v.meter.compareTo(BigInteger.valueOf(1000)) > 0;
    }

    private Value productOf(Value v, Value w) {
        while (v.level > 0 && (loud(v) || loud(w))) {
            v = lower(v);
            w = lower(w);
            if (v == null || w == null) {
                return null;
            }
        }
        BigInteger[] c0 = times(v.c0, w.c0);
        BigInteger[] c1 = plus(times(v.c0, w.c1), times(v.c1, w.c0));
        BigInteger[] p2 = mod(times(v.c1, w.c1), modulus(v.level));
        BigInteger digits = BigInteger.ZERO;
        for (int j = 0; j <= v.level; j++) {
            BigInteger[] r = mod(p2, prime(j));
            c0 = plus(c0, times(r, b[j]));
            c1 = plus(c1, times(r, a[j]));
            digits = digits.add(prime(j)).subtract(BigInteger.ONE);
        }
        BigInteger meter = v.meter.multiply(w.meter).shiftLeft(3).add(digits.multiply(BigInteger.valueOf(136)));
        return kept(new Value(v.level, c0, c1, meter));
    }

    boolean put(int i, int v) {
        if (i < 0 || i > 7) {
            return false;
        }
        message[i] = BigInteger.valueOf(v).mod(T);
        return true;
    }

    private boolean isGate(int g) {
        return g >= 0 && g < gates.size();
    }

    private int add(String kind, int x, int y, BigInteger[] plain) {
        if (gates.size() == 24) {
            return NONE;
        }
        gates.add(new Gate(kind, x, y, plain));
        return gates.size() - 1;
    }

    private BigInteger[] plainOf(int g) {
        return gates.get(g).plain;
    }

    int input(int seed) {
        return add("input", seed, 0, message);
    }

    int sum(int x, int y) {
        return isGate(x) && isGate(y) ? add("sum", x, y, plus(plainOf(x), plainOf(y))) : NONE;
    }

    int difference(int x, int y) {
        return isGate(x) && isGate(y) ? add("difference", x, y, minus(plainOf(x), plainOf(y))) : NONE;
    }

    int product(int x, int y) {
        return isGate(x) && isGate(y) ? add("product", x, y, times(plainOf(x), plainOf(y))) : NONE;
    }

    int shift(int x, int k) {
        return isGate(x) && k >= 0 && k <= 15 ? add("shift", x, k, turned(plainOf(x), k)) : NONE;
    }

    int lowered(int x) {
        return isGate(x) ? add("lowered", x, 0, plainOf(x)) : NONE;
    }

    int count() {
        return gates.size();
    }

    boolean cut(int n) {
        if (!isGate(n)) {
            return false;
        }
        while (gates.size() > n) {
            gates.remove(gates.size() - 1);
        }
        return true;
    }

    int run() {
        for (int g = 0; g < gates.size(); g++) {
            Gate gate = gates.get(g);
            if (gate.value == null) {
                gate.value = valueOf(gate);
            }
            if (gate.value == null) {
                return g;
            }
        }
        return NONE;
    }

    private Value value(int g) {
        return isGate(g) ? gates.get(g).value : null;
    }

    int level(int g) {
        Value v = value(g);
        return v == null ? NONE : v.level;
    }

    long meter(int g) {
        Value v = value(g);
        return v == null ? NONE : v.meter.longValueExact();
    }

    private BigInteger[] opened(Value v) {
        BigInteger[] sum = plus(v.c0, times(v.c1, secret));
        BigInteger[] r = new BigInteger[8];
        for (int i = 0; i < 8; i++) {
            r[i] = centred(sum[i], modulus(v.level));
        }
        return r;
    }

    long noise(int g) {
        Value v = value(g);
        if (v == null) {
            return NONE;
        }
        BigInteger greatest = BigInteger.ZERO;
        for (BigInteger c : opened(v)) {
            greatest = greatest.max(c.abs());
        }
        return greatest.longValueExact();
    }

    long part(int g, int which, int i) {
        Value v = value(g);
        if (v == null || which < 0 || which > 1 || i < 0 || i > 7) {
            return NONE;
        }
        return (which == 0 ? v.c0 : v.c1)[i].longValueExact();
    }

    int decrypted(int g, int i) {
        Value v = value(g);
        return v == null || i < 0 || i > 7 ? NONE : opened(v)[i].mod(T).intValueExact();
    }

    int plain(int g, int i) {
        return isGate(g) && i >= 0 && i <= 7 ? plainOf(g)[i].intValueExact() : NONE;
    }

    int secret(int i) {
        return i >= 0 && i <= 7 ? secret[i].intValueExact() : 0;
    }
}
