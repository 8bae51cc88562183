import java.nio.charset.StandardCharsets;

/** Compares answers with those that are due, and ends the test with 1 if one was another. */
final class Checks {
    interface Call {
        void run();
    }

    private int right;
    private int wrong;

    void due(String what, long got, long want) {
        if (got == want) {
            right++;
        } else {
            wrong++;
            System.out.println(what + " answered " + got + ", due is " + want);
        }
    }

    void due(String what, boolean got, boolean want) {
        due(what, got ? 1 : 0, want ? 1 : 0);
    }

    void dueThrow(String what, Class<? extends RuntimeException> want, Call call) {
        Class<?> got = thrownBy(call);
        if (got == want) {
            right++;
        } else {
            wrong++;
            System.out.println(what + " threw " + got + ", due is " + want);
        }
    }

    void noIndex(String what, Call call) {
        dueThrow(what, IndexOutOfBoundsException.class, call);
    }

    void noArgument(String what, Call call) {
        dueThrow(what, IllegalArgumentException.class, call);
    }

    void noElement(String what, Call call) {
        dueThrow(what, java.util.NoSuchElementException.class, call);
    }

    void noMore(String what, Call call) {
        dueThrow(what, UnsupportedOperationException.class, call);
    }

    void close() {
        System.out.println(right + " answers as due, " + wrong + " not");
        if (wrong != 0 || right == 0) {
            System.exit(1);
        }
    }

    static Class<?> thrownBy(Call call) {
        try {
            call.run();
            return null;
        } catch (RuntimeException e) {
            return e.getClass();
        }
    }

    /** Puts a text of at most 400 bytes, one for each sign, on an empty tape. */
    static void feedText(KelpShores x, String text) {
        byte[] bytes = text.getBytes(StandardCharsets.ISO_8859_1);
        for (int from = 0; from < bytes.length; from += 20) {
            x.feed(word(bytes, from), word(bytes, from + 4), word(bytes, from + 8),
                    word(bytes, from + 12), word(bytes, from + 16));
        }
        if (!x.end(bytes.length)) {
            throw new AssertionError("the text does not fit on the tape");
        }
    }

    static int tell(KelpShores x, String text) {
        feedText(x, text);
        return x.rights();
    }

    static KelpShores withShores(int many) {
        KelpShores x = new KelpShores();
        for (int i = 0; i < many; i++) {
            x.shore();
        }
        return x;
    }

    static void days(KelpShores x, int many) {
        for (int i = 0; i < many; i++) {
            x.day(0, 0, 0, 0);
        }
    }

    private static int word(byte[] bytes, int from) {
        int number = 0;
        for (int i = from; i < from + 4; i++) {
            number = number << 8 | (i < bytes.length ? bytes[i] & 255 : 0);
        }
        return number;
    }
}
