/** Counts and prints the answers that are not as due. */
final class Checks {
    private final String name;
    private long looked = 0;
    private long wrong = 0;
    private String sentence = "";
    private int sentences = 0;

    Checks(String name) {
        this.name = name;
    }

    void same(String what, long got, long due) {
        looked++;
        if (got != due) {
            wrong++;
            System.out.println(name + sentence + ": " + what + " answered " + got + ", due is " + due);
        }
    }

    /** Runs a test of its own for one sentence of the document, which is named where an answer is wrong. */
    void sentence(String words, Runnable test) {
        long before = looked;
        sentence = ", \"" + words + "\"";
        test.run();
        yes("this sentence's test looks at answers", looked > before);
        sentence = "";
        sentences++;
    }

    void yes(String what, boolean got) {
        same(what, got ? 1 : 0, 1);
    }

    void no(String what, boolean got) {
        same(what, got ? 1 : 0, 0);
    }

    boolean anyWrong() {
        return wrong > 0;
    }

    void finish() {
        String about = sentences > 0 ? " about " + sentences + " sentences" : "";
        System.out.println(name + ": " + looked + " answers" + about + " looked at, " + wrong + " wrong");
        if (wrong > 0 || looked == 0) {
            System.exit(1);
        }
    }
}
