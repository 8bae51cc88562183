import java.util.NoSuchElementException;

/** Compares answers with those that are due, and ends the test with 1 if one was another. */
final class Checks {
    interface Call {
        void run();
    }

    private String sentence = "";
    private int sentences;
    private int right;
    private int wrong;

    /**
     * One sentence of the document with a test of its own. It must compare two answers at least, for a
     * bound has two sides; what it throws is its own fault alone, so that the other sentences are tested.
     */
    void sentence(String words, Call test) {
        sentence = words;
        sentences++;
        int before = right + wrong;
        try {
            test.run();
        } catch (RuntimeException e) {
            fail("the test was thrown out by " + e + " at " + e.getStackTrace()[0]);
        }
        if (right + wrong - before < 2) {
            fail("both sides are not compared");
        }
        sentence = "";
    }

    void due(String what, long got, long want) {
        compare(what, got == want, got, want);
    }

    void due(String what, boolean got, boolean want) {
        compare(what, got == want, got, want);
    }

    void due(String what, String got, String want) {
        compare(what, got.equals(want), got, want);
    }

    void dueThrow(String what, Class<? extends RuntimeException> want, Call call) {
        Class<?> got = thrownBy(call);
        compare(what, got == want, got, want);
    }

    void noThrow(String what, Call call) {
        Class<?> got = thrownBy(call);
        compare(what, got == null, got, "nothing thrown");
    }

    void noIndex(String what, Call call) {
        dueThrow(what, IndexOutOfBoundsException.class, call);
    }

    void noArgument(String what, Call call) {
        dueThrow(what, IllegalArgumentException.class, call);
    }

    void noElement(String what, Call call) {
        dueThrow(what, NoSuchElementException.class, call);
    }

    void noMore(String what, Call call) {
        dueThrow(what, UnsupportedOperationException.class, call);
    }

    void close() {
        System.out.println((sentences == 0 ? "" : sentences + " sentences, ")
                + right + " answers as due, " + wrong + " not");
        if (wrong != 0 || right == 0) {
            System.exit(1);
        }
    }

    static Class<?> thrownBy(Call call) {
        try {
            call.run();
            return null;
        } catch (RuntimeException e) {
            return e.getClass();
        }
    }

    private void compare(String what, boolean same, Object got, Object want) {
        if (same) {
            right++;
        } else {
            fail(what + " answered " + got + ", due is " + want);
        }
    }

    private void fail(String message) {
        wrong++;
        System.out.println((sentence.isEmpty() ? "" : "\"" + sentence + "\": ") + message);
    }
}
