import java.util.NoSuchElementException;

/** Counts the answers that are not as due; a test ends with exit code 1 if there was one. */
final class Check {
    private static final int MOST_TOLD = 40;
    private final String test;
    private int asked = 0;
    private int wrong = 0;
    private String sentence = "";

    Check(String test) {
        this.test = test;
    }

    /** From here on the answers hold this sentence of the document; DocTest asks that none is left out. */
    void about(String words) {
        sentence = words;
    }

    void due(String call, long got, long want) {
        asked++;
        if (got != want) {
            tell(call + " answered " + got + ", due is " + want);
        }
    }

    void due(String call, boolean got, boolean want) {
        due(call, got ? 1L : 0L, want ? 1L : 0L);
    }

    /** The answer and the STATUS behind it. */
    void due(BeatBench x, String call, long got, long want, int status) {
        due(call, got, want);
        due("status() behind " + call, x.status(), status);
    }

    void yes(BeatBench x, String call, boolean got) {
        due(x, call, got ? 1L : 0L, 1L, 0);
    }

    void no(BeatBench x, String call, boolean got, int status) {
        due(x, call, got ? 1L : 0L, 0L, status);
    }

    void none(BeatBench x, String call, long got, int status) {
        due(x, call, got, BeatBench.NONE, status);
    }

    void outIsNone(BeatBench x, int k) {
        int before = x.status();
        asked++;
        try {
            tell("out(" + k + ") answered " + x.out(k) + ", due is NoSuchElementException");
        } catch (NoSuchElementException due) {
            due("status() behind out(" + k + ")", x.status(), before);
        }
    }

    void out(BeatBench x, int... bytes) {
        int before = x.status();
        for (int k = 0; k < bytes.length; k++) {
            due("out(" + k + ")", outOrLess(x, k), bytes[k]);
        }
        outIsNone(x, bytes.length);
        due("status() behind out()", x.status(), before);
    }

    private static int outOrLess(BeatBench x, int k) {
        try {
            return x.out(k);
        } catch (NoSuchElementException none) {
            return Integer.MIN_VALUE;
        }
    }

    private void tell(String text) {
        wrong++;
        if (wrong <= MOST_TOLD) {
            System.out.println(test + ": " + text + (sentence.isEmpty() ? "" : "  <- " + sentence));
        }
    }

    void end() {
        System.out.println(test + ": " + asked + " answers, " + wrong + " not as due");
        if (wrong != 0) {
            System.exit(1);
        }
    }
}
