/** Makes each call on the program and on the reference, checks that both answer the same, and hands the answer on. */
final class Pair {
    final LevelledRing ring;
    final ReferenceRing reference;
    private final Checks checks;
    private final String name;

    Pair(Checks checks, String name, int seed) {
        this.checks = checks;
        this.name = name;
        ring = new LevelledRing(seed);
        reference = new ReferenceRing(seed);
    }

    private long same(String call, long got, long due) {
        checks.same(name + ", " + call, got, due);
        return got;
    }

    boolean put(int i, int v) {
        return same("put(" + i + ", " + v + ")", ring.put(i, v) ? 1 : 0, reference.put(i, v) ? 1 : 0) == 1;
    }

    int input(int seed) {
        return (int) same("input(" + seed + ")", ring.input(seed), reference.input(seed));
    }

    int sum(int a, int b) {
        return (int) same("sum(" + a + ", " + b + ")", ring.sum(a, b), reference.sum(a, b));
    }

    int difference(int a, int b) {
        return (int) same("difference(" + a + ", " + b + ")", ring.difference(a, b), reference.difference(a, b));
    }

    int product(int a, int b) {
        return (int) same("product(" + a + ", " + b + ")", ring.product(a, b), reference.product(a, b));
    }

    int shift(int a, int k) {
        return (int) same("shift(" + a + ", " + k + ")", ring.shift(a, k), reference.shift(a, k));
    }

    int lowered(int a) {
        return (int) same("lowered(" + a + ")", ring.lowered(a), reference.lowered(a));
    }

    int count() {
        return (int) same("count()", ring.count(), reference.count());
    }

    boolean cut(int n) {
        return same("cut(" + n + ")", ring.cut(n) ? 1 : 0, reference.cut(n) ? 1 : 0) == 1;
    }

    int run() {
        return (int) same("run()", ring.run(), reference.run());
    }

    int level(int g) {
        return (int) same("level(" + g + ")", ring.level(g), reference.level(g));
    }

    long meter(int g) {
        return same("meter(" + g + ")", ring.meter(g), reference.meter(g));
    }

    long noise(int g) {
        return same("noise(" + g + ")", ring.noise(g), reference.noise(g));
    }

    long part(int g, int which, int i) {
        return same("part(" + g + ", " + which + ", " + i + ")", ring.part(g, which, i), reference.part(g, which, i));
    }

    int decrypted(int g, int i) {
        return (int) same("decrypted(" + g + ", " + i + ")", ring.decrypted(g, i), reference.decrypted(g, i));
    }

    int plain(int g, int i) {
        return (int) same("plain(" + g + ", " + i + ")", ring.plain(g, i), reference.plain(g, i));
    }

    int secret(int i) {
        return (int) same("secret(" + i + ")", ring.secret(i), reference.secret(i));
    }

    /** All that can be asked of one gate, and a little beyond. */
    void askAll(int g) {
        level(g);
        meter(g);
        noise(g);
        for (int i = -1; i <= 8; i++) {
            for (int which = -1; which <= 2; which++) {
                part(g, which, i);
            }
            decrypted(g, i);
            plain(g, i);
        }
    }

    void askAllGates() {
        count();
        for (int g = -1; g <= 24; g++) {
            askAll(g);
        }
    }

    /** Puts a whole message into the register. */
    void message(int... coefficients) {
        for (int i = 0; i < 8; i++) {
            put(i, coefficients[i]);
        }
    }

    /**
     * Adds a gate whose value at level 3 hides nothing: C1 is 0, and C0 has just these coefficients, from -16 to 16.
     * It is the difference of two inputs of one seed, so that it is the third of three new gates, and has the meter 66.
     */
    int exact(int... coefficients) {
        for (int i = 0; i < 8; i++) {
            put(i, Math.max(coefficients[i], 0));
        }
        int above = input(5);
        for (int i = 0; i < 8; i++) {
            put(i, Math.max(-coefficients[i], 0));
        }
        return difference(above, input(5));
    }

    /** Lowers a gate of level 3 by as many gates as it takes to come to a level. */
    int loweredTo(int level, int gate) {
        int g = gate;
        for (int l = 3; l > level; l--) {
            g = lowered(g);
        }
        return g;
    }

    /**
     * Adds the gates of a circuit, of which each is one word: I is an input, S3,4 D3,4 and P3,4 are the sum, difference
     * and product of the gates 3 and 4, L3 is gate 3 lowered. Answers the last one's number.
     */
    int build(String circuit) {
        int g = LevelledRing.NONE;
        for (String word : circuit.trim().split(" +")) {
            String[] operands = word.substring(1).split(",");
            int a = word.length() > 1 ? Integer.parseInt(operands[0]) : 0;
            int b = operands.length > 1 ? Integer.parseInt(operands[1]) : 0;
            switch (word.charAt(0)) {
                case 'I': g = input(11 + count()); break;
                case 'S': g = sum(a, b); break;
                case 'D': g = difference(a, b); break;
                case 'P': g = product(a, b); break;
                case 'L': g = lowered(a); break;
                default: throw new IllegalArgumentException(word);
            }
        }
        return g;
    }

    void plainIs(int g, int... due) {
        for (int i = 0; i < 8; i++) {
            checks.same("plain(" + g + ", " + i + ")", plain(g, i), due[i]);
        }
    }

    void decryptsToPlain(int g) {
        for (int i = 0; i < 8; i++) {
            checks.same("decrypted(" + g + ", " + i + ")", decrypted(g, i), plain(g, i));
        }
    }

    void valueIs(int g, int level, long meter) {
        checks.same("level(" + g + ")", level(g), level);
        checks.same("meter(" + g + ")", meter(g), meter);
        checks.yes("the meter of " + g + " bounds its noise", noise(g) <= meter);
        decryptsToPlain(g);
        askAll(g);
    }

    void hasNoValue(int g) {
        checks.same("level(" + g + ")", level(g), LevelledRing.NONE);
        checks.same("meter(" + g + ")", meter(g), LevelledRing.NONE);
        checks.same("noise(" + g + ")", noise(g), LevelledRing.NONE);
        for (int i = 0; i < 8; i++) {
            checks.same("part(" + g + ", 0, " + i + ")", part(g, 0, i), LevelledRing.NONE);
            checks.same("part(" + g + ", 1, " + i + ")", part(g, 1, i), LevelledRing.NONE);
            checks.same("decrypted(" + g + ", " + i + ")", decrypted(g, i), LevelledRing.NONE);
        }
    }

    /** The value of a gate at a level has the C1 of 0, and a C0 of these coefficients modulo Q(level). */
    void isExactly(int g, int level, long... due) {
        long modulus = ReferenceRing.modulus(level).longValueExact();
        checks.same("level(" + g + ")", level(g), level);
        for (int i = 0; i < 8; i++) {
            checks.same("part(" + g + ", 0, " + i + ")", part(g, 0, i), due[i] < 0 ? modulus + due[i] : due[i]);
            checks.same("part(" + g + ", 1, " + i + ")", part(g, 1, i), 0);
        }
    }

    void runsThrough() {
        checks.same("run()", run(), LevelledRing.NONE);
    }

    void isExhausted(int g) {
        checks.same("run()", run(), g);
        hasNoValue(g);
    }
}
