import java.util.Random;

/** Long runs of calls, drawn from fixed seeds, on the program and on the reference side by side. */
public final class RandomRunsTest {
    private static final int RUNS = 250;
    private static final int CALLS = 512;
    private static final int[] EDGES = {Integer.MIN_VALUE, -18, -17, -2, -1, 0, 7, 8, 15, 16, 17, 23, 24, 25, Integer.MAX_VALUE};

    private final Checks checks;
    private final Random random;
    private final LevelledRing ring;
    private final ReferenceRing reference;
    private final String run;

    private RandomRunsTest(Checks checks, int run) {
        this.checks = checks;
        this.run = "run " + run + ", ";
        random = new Random(run);
        int seed = number();
        ring = new LevelledRing(seed);
        reference = new ReferenceRing(seed);
    }

    public static void main(String[] args) {
        Checks checks = new Checks("RandomRunsTest");
        for (int run = 0; run < RUNS && !checks.anyWrong(); run++) {
            RandomRunsTest test = new RandomRunsTest(checks, run);
            for (int call = 0; call < CALLS; call++) {
                test.call(call);
            }
        }
        everyAnswer(checks);
        checks.finish();
    }

    /** All that can be asked of all gates, in circuits that reach each level and are exhausted somewhere. */
    private static void everyAnswer(Checks checks) {
        for (int run = 0; run < 60 && !checks.anyWrong(); run++) {
            RandomRunsTest test = new RandomRunsTest(checks, RUNS + run);
            for (int i = 0; i < 8; i++) {
                test.put(i, test.random.nextInt(17));
            }
            test.input();
            for (int g = 1; g < 24; g++) {
                test.addDeepGate(g);
            }
            test.askEverything();
        }
    }

    private void addDeepGate(int g) {
        int a = random.nextInt(4) == 0 ? random.nextInt(g) : g - 1;
        int b = random.nextInt(3) == 0 ? g - 1 : random.nextInt(g);
        switch (random.nextInt(9)) {
            case 0: product(a, b); break;
            case 1: lowered(a); break;
            case 2: shift(a, random.nextInt(16)); break;
            case 3: difference(a, b); break;
            case 4: input(); break;
            default: sum(a, a); break;
        }
        int exhausted = reference.run();
        same("run()", ring.run(), exhausted);
        if (exhausted != ReferenceRing.NONE) {
            cut(exhausted);
            sum(random.nextInt(g), random.nextInt(g));
        }
    }

    private void askEverything() {
        same("run()", ring.run(), reference.run());
        for (int g = -1; g <= 24; g++) {
            same("level(" + g + ")", ring.level(g), reference.level(g));
            same("meter(" + g + ")", ring.meter(g), reference.meter(g));
            same("noise(" + g + ")", ring.noise(g), reference.noise(g));
            for (int i = -1; i <= 8; i++) {
                for (int which = -1; which <= 2; which++) {
                    part(g, which, i);
                }
                decrypted(g, i);
                plain(g, i);
                same("secret(" + i + ")", ring.secret(i), reference.secret(i));
            }
        }
    }

    private int number() {
        return random.nextBoolean() ? random.nextInt() : EDGES[random.nextInt(EDGES.length)];
    }

    /** Mostly a gate that is there, and the newest ones oftener, so that circuits grow deep. */
    private int gate() {
        int count = reference.count();
        if (random.nextInt(25) == 0) {
            return number();
        }
        if (count > 0 && random.nextBoolean()) {
            return Math.max(0, count - 1 - random.nextInt(3));
        }
        return random.nextInt(count + 1);
    }

    private int index(int bound) {
        return random.nextInt(12) == 0 ? number() : random.nextInt(bound);
    }

    private void call(int call) {
        switch (random.nextInt(22)) {
            case 0: put(index(8), number()); break;
            case 1: case 2: input(); break;
            case 3: case 4: sum(gate(), gate()); break;
            case 5: difference(gate(), gate()); break;
            case 6: case 7: product(gate(), gate()); break;
            case 8: shift(gate(), index(16)); break;
            case 9: lowered(gate()); break;
            case 10: same("count()", ring.count(), reference.count()); break;
            case 11: cutSometimes(); break;
            case 12: case 13: case 14: same("run()", ring.run(), reference.run()); break;
            default: ask(gate()); break;
        }
    }

    private void cutSometimes() {
        int exhausted = reference.run();
        same("run()", ring.run(), exhausted);
        if (exhausted != ReferenceRing.NONE) {
            cut(exhausted);
        } else if (reference.count() == 24 || random.nextInt(3) == 0) {
            cut(gate());
        }
    }

    private void ask(int g) {
        switch (random.nextInt(7)) {
            case 0: same("level(" + g + ")", ring.level(g), reference.level(g)); break;
            case 1: same("meter(" + g + ")", ring.meter(g), reference.meter(g)); break;
            case 2: same("noise(" + g + ")", ring.noise(g), reference.noise(g)); break;
            case 3: part(g, index(2), index(8)); break;
            case 4: decrypted(g, index(8)); break;
            case 5: plain(g, index(8)); break;
            default:
                int i = index(8);
                same("secret(" + i + ")", ring.secret(i), reference.secret(i));
                break;
        }
    }

    private void same(String call, long got, long due) {
        checks.same(run + call, got, due);
    }

    private void put(int i, int v) {
        same("put(" + i + ", " + v + ")", ring.put(i, v) ? 1 : 0, reference.put(i, v) ? 1 : 0);
    }

    private void input() {
        int seed = number();
        same("input(" + seed + ")", ring.input(seed), reference.input(seed));
    }

    private void sum(int a, int b) {
        same("sum(" + a + ", " + b + ")", ring.sum(a, b), reference.sum(a, b));
    }

    private void difference(int a, int b) {
        same("difference(" + a + ", " + b + ")", ring.difference(a, b), reference.difference(a, b));
    }

    private void product(int a, int b) {
        same("product(" + a + ", " + b + ")", ring.product(a, b), reference.product(a, b));
    }

    private void shift(int a, int k) {
        same("shift(" + a + ", " + k + ")", ring.shift(a, k), reference.shift(a, k));
    }

    private void lowered(int a) {
        same("lowered(" + a + ")", ring.lowered(a), reference.lowered(a));
    }

    private void cut(int n) {
        same("cut(" + n + ")", ring.cut(n) ? 1 : 0, reference.cut(n) ? 1 : 0);
    }

    private void part(int g, int which, int i) {
        same("part(" + g + ", " + which + ", " + i + ")", ring.part(g, which, i), reference.part(g, which, i));
    }

    private void decrypted(int g, int i) {
        same("decrypted(" + g + ", " + i + ")", ring.decrypted(g, i), reference.decrypted(g, i));
    }

    private void plain(int g, int i) {
        same("plain(" + g + ", " + i + ")", ring.plain(g, i), reference.plain(g, i));
    }
}
