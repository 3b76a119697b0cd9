/** Holds what was answered against what is due, and ends a test with 1 if something was wrong. */
final class Due {
    private static final int MOST_SHOWN = 40;
    private final String test;
    private int calls = 0;
    private int wrong = 0;
    private String sentence = "";

    Due(String test) {
        this.test = test;
    }

    /** What is looked at from here on is told under this sentence of the document. */
    void sentence(String words) {
        sentence = "[" + words + "] ";
    }

    void is(String call, long got, long want) {
        calls++;
        if (got != want) {
            wrong++;
            if (wrong <= MOST_SHOWN) {
                System.out.println(sentence + call + " answered " + got + ", due is " + want);
            }
        }
    }

    void holds(String what, boolean is) {
        is(what, is ? 1 : 0, 1);
    }

    void end() {
        System.out.println(test + ": " + calls + " looked at, " + wrong + " wrong");
        if (wrong != 0 || calls == 0) {
            System.exit(1);
        }
    }
}
