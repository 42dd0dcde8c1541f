import java.util.NoSuchElementException;

/** Counts answers that are not as due, and ends a test with 1 if there was one. */
final class Check {
    interface Call {
        long answer();
    }

    private int wrong = 0;
    private int asked = 0;

    void due(String call, long got, long want) {
        asked++;
        if (got != want) {
            wrong++;
            System.out.println(call + " answered " + got + ", due is " + want);
        }
    }

    void due(String call, boolean got, boolean want) {
        due(call, got ? 1 : 0, want ? 1 : 0);
    }

    void noSuch(String call, Call made) {
        asked++;
        try {
            long got = made.answer();
            wrong++;
            System.out.println(call + " answered " + got + ", due is NoSuchElementException");
        } catch (NoSuchElementException e) {
            return;
        }
    }

    void fail(String what) {
        asked++;
        wrong++;
        System.out.println(what);
    }

    int wrong() {
        return wrong;
    }

    void end() {
        System.out.println((asked - wrong) + " answers as due, " + wrong + " not");
        if (wrong != 0) {
            System.exit(1);
        }
    }
}
