/** Makes each call on the program and on the reference, checks that both answer the same, and hands the program's answer on. */
final class Pair {
    final LevelledRing ring;
    final ReferenceRing reference;
    private final Checks checks;
    private final String name;

    Pair(Checks checks, String name, int seed) {
        this.checks = checks;
        this.name = name;
        ring = new LevelledRing(seed);
        reference = new ReferenceRing(seed);
    }

    private long same(String call, long got, long due) {
        checks.same(name + ", " + call, got, due);
        return got;
    }

    boolean put(int i, int v) {
        return same("put(" + i + ", " + v + ")", ring.put(i, v) ? 1 : 0, reference.put(i, v) ? 1 : 0) == 1;
    }

    int input(int seed) {
        return (int) same("input(" + seed + ")", ring.input(seed), reference.input(seed));
    }

    int sum(int a, int b) {
        return (int) same("sum(" + a + ", " + b + ")", ring.sum(a, b), reference.sum(a, b));
    }

    int difference(int a, int b) {
        return (int) same("difference(" + a + ", " + b + ")", ring.difference(a, b), reference.difference(a, b));
    }

    int product(int a, int b) {
        return (int) same("product(" + a + ", " + b + ")", ring.product(a, b), reference.product(a, b));
    }

    int shift(int a, int k) {
        return (int) same("shift(" + a + ", " + k + ")", ring.shift(a, k), reference.shift(a, k));
    }

    int lowered(int a) {
        return (int) same("lowered(" + a + ")", ring.lowered(a), reference.lowered(a));
    }

    int count() {
        return (int) same("count()", ring.count(), reference.count());
    }

    boolean cut(int n) {
        return same("cut(" + n + ")", ring.cut(n) ? 1 : 0, reference.cut(n) ? 1 : 0) == 1;
    }

    int run() {
        return (int) same("run()", ring.run(), reference.run());
    }

    int level(int g) {
        return (int) same("level(" + g + ")", ring.level(g), reference.level(g));
    }

    long meter(int g) {
        return same("meter(" + g + ")", ring.meter(g), reference.meter(g));
    }

    long noise(int g) {
        return same("noise(" + g + ")", ring.noise(g), reference.noise(g));
    }

    long part(int g, int which, int i) {
        return same("part(" + g + ", " + which + ", " + i + ")", ring.part(g, which, i), reference.part(g, which, i));
    }

    int decrypted(int g, int i) {
        return (int) same("decrypted(" + g + ", " + i + ")", ring.decrypted(g, i), reference.decrypted(g, i));
    }

    int plain(int g, int i) {
        return (int) same("plain(" + g + ", " + i + ")", ring.plain(g, i), reference.plain(g, i));
    }

    int secret(int i) {
        return (int) same("secret(" + i + ")", ring.secret(i), reference.secret(i));
    }

    /** All that can be asked of one gate, and a little beyond. */
    void askAll(int g) {
        level(g);
        meter(g);
        noise(g);
        for (int i = -1; i <= 8; i++) {
            for (int which = -1; which <= 2; which++) {
                part(g, which, i);
            }
            decrypted(g, i);
            plain(g, i);
        }
    }

    void askAllGates() {
        count();
        for (int g = -1; g <= 24; g++) {
            askAll(g);
        }
    }
}
