import java.util.NoSuchElementException;

/** Counts answers that are not as due, and ends a test with 1 if there was one. */
final class Check {
    interface Call {
        long answer();
    }

    private String about = "";
    private int wrong = 0;
    private int asked = 0;
    private int sentences = 0;

    /** A test of one sentence of the document; it fails, too, if it asks nothing or throws. */
    void sentence(int promise, String words, Runnable test) {
        int before = asked;
        about = "promise " + promise + ", \"" + words + "\": ";
        sentences++;
        try {
            test.run();
        } catch (RuntimeException e) {
            fail("threw " + e);
        }
        if (asked == before) {
            fail("nothing was asked");
        }
        about = "";
    }

    void due(String call, long got, long want) {
        asked++;
        if (got != want) {
            wrong++;
            System.out.println(about + call + " answered " + got + ", due is " + want);
        }
    }

    void due(String call, boolean got, boolean want) {
        due(call, got ? 1 : 0, want ? 1 : 0);
    }

    void due(String call, String got, String want) {
        asked++;
        if (!got.equals(want)) {
            wrong++;
            System.out.println(about + call + " answered " + got + ", due is " + want);
        }
    }

    void noSuch(String call, Call made) {
        asked++;
        try {
            long got = made.answer();
            wrong++;
            System.out.println(about + call + " answered " + got + ", due is NoSuchElementException");
        } catch (NoSuchElementException e) {
            return;
        }
    }

    void fail(String what) {
        asked++;
        wrong++;
        System.out.println(about + what);
    }

    int wrong() {
        return wrong;
    }

    void end() {
        String of = sentences == 0 ? "" : " in " + sentences + " sentences";
        System.out.println((asked - wrong) + " answers as due, " + wrong + " not" + of);
        if (wrong != 0) {
            System.exit(1);
        }
    }
}
