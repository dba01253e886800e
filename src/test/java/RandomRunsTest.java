import java.util.Random;

/** Long runs of calls, drawn from fixed seeds, on the program and on the reference side by side. */
public final class RandomRunsTest {
    private static final int WIDE_RUNS = 250;
    private static final int DEEP_RUNS = 60;
    private static final int CALLS = 512;
    private static final int[] EDGES =
        {Integer.MIN_VALUE, -18, -17, -2, -1, 0, 7, 8, 15, 16, 17, 23, 24, 25, Integer.MAX_VALUE};

    private final Random random;
    private final Pair pair;

    private RandomRunsTest(Checks checks, int run) {
        random = new Random(run);
        pair = new Pair(checks, "run " + run, number());
    }

    public static void main(String[] args) {
        Checks checks = new Checks("RandomRunsTest");
        for (int run = 0; run < WIDE_RUNS && !checks.anyWrong(); run++) {
            new RandomRunsTest(checks, run).goWide();
        }
        for (int run = 0; run < DEEP_RUNS && !checks.anyWrong(); run++) {
            new RandomRunsTest(checks, WIDE_RUNS + run).goDeep();
        }
        checks.finish();
    }

    /** As many calls as an object is used for, of all kinds and with wrong inputs among them. */
    private void goWide() {
        for (int call = 0; call < CALLS; call++) {
            makeCall();
        }
    }

    /** Circuits that go down to level 0 and are exhausted on the way, and all that can be asked of them. */
    private void goDeep() {
        for (int i = 0; i < 8; i++) {
            pair.put(i, random.nextInt(17));
            pair.secret(i);
        }
        pair.input(number());
        for (int g = 1; g < 24; g++) {
            addDeepGate(g);
        }
        pair.run();
        pair.askAllGates();
    }

    private void addDeepGate(int g) {
        int a = random.nextInt(4) == 0 ? random.nextInt(g) : g - 1;
        int b = random.nextInt(3) == 0 ? g - 1 : random.nextInt(g);
        switch (random.nextInt(9)) {
            case 0: pair.product(a, b); break;
            case 1: pair.lowered(a); break;
            case 2: pair.shift(a, random.nextInt(16)); break;
            case 3: pair.difference(a, b); break;
            case 4: pair.input(number()); break;
            default: pair.sum(a, a); break;
        }
        int exhausted = pair.run();
        if (exhausted != LevelledRing.NONE) {
            pair.askAll(exhausted);
            pair.cut(exhausted);
            pair.sum(random.nextInt(g), random.nextInt(g));
        }
    }

    private int number() {
        return random.nextBoolean() ? random.nextInt() : EDGES[random.nextInt(EDGES.length)];
    }

    /** Mostly a gate that is there, and the newest ones oftener, so that circuits grow deep. */
    private int gate() {
        int count = pair.count();
        if (random.nextInt(25) == 0) {
            return number();
        }
        if (count > 0 && random.nextBoolean()) {
            return Math.max(0, count - 1 - random.nextInt(3));
        }
        return random.nextInt(count + 1);
    }

    private int index(int bound) {
        return random.nextInt(12) == 0 ? number() : random.nextInt(bound);
    }

    private void makeCall() {
        switch (random.nextInt(22)) {
            case 0: pair.put(index(8), number()); break;
            case 1: case 2: pair.input(number()); break;
            case 3: case 4: pair.sum(gate(), gate()); break;
            case 5: pair.difference(gate(), gate()); break;
            case 6: case 7: pair.product(gate(), gate()); break;
            case 8: pair.shift(gate(), index(16)); break;
            case 9: pair.lowered(gate()); break;
            case 10: pair.secret(index(8)); break;
            case 11: cutSometimes(); break;
            case 12: case 13: case 14: pair.run(); break;
            default: ask(gate()); break;
        }
    }

    private void cutSometimes() {
        int exhausted = pair.run();
        if (exhausted != LevelledRing.NONE) {
            pair.cut(exhausted);
        } else if (pair.count() == 24 || random.nextInt(3) == 0) {
            pair.cut(gate());
        }
    }

    private void ask(int g) {
        switch (random.nextInt(6)) {
            case 0: pair.level(g); break;
            case 1: pair.meter(g); break;
            case 2: pair.noise(g); break;
            case 3: pair.part(g, index(2), index(8)); break;
            case 4: pair.decrypted(g, index(8)); break;
            default: pair.plain(g, index(8)); break;
        }
    }
}
