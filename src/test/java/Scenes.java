/** Objects as a test needs them at its begin, each made with far fewer than 512 calls. */
final class Scenes {
    static final int[] FAR = {Integer.MIN_VALUE, Integer.MAX_VALUE};

    private Scenes() {
    }

    static KelpShores withShores(int many) {
        KelpShores x = new KelpShores();
        for (int i = 0; i < many; i++) {
            x.shore();
        }
        return x;
    }

    /** A shore with four rocks of 1000, all of the same depth, where one family may cut 100 a day all the year. */
    static KelpShores withWeed(int family, int depth) {
        KelpShores x = withShores(1);
        for (int rock = 0; rock < 4; rock++) {
            x.rock(0, depth, 1000);
        }
        x.hands(family, 20);
        tell(x, allYear(0, family, 0) + "; rest 0");
        return x;
    }

    /** Has just so much dry weed, 22 at the most: of as little wet weed as nine tenths of it will do. */
    static KelpShores withDry(int family, int dry) {
        KelpShores x = withWeed(family, 9);
        if (dry > 0) {
            x.cut(0, 0, family, (40 * dry + 8) / 9);
        }
        x.day(0, 9, 0, 0);
        return x;
    }

    /** Storms cast weed up, and a hundred is gathered each day and dries: 37 days are the most for one shore. */
    static KelpShores withMuchDry(int family, int days) {
        KelpShores x = withWeed(family, 0);
        gatherFor(x, family, 1, days);
        x.day(9, 9, 0, 0);
        return x;
    }

    static void gatherFor(KelpShores x, int family, int shores, int days) {
        for (int i = 0; i < days; i++) {
            x.day(9, 9, 0, 9);
            x.gather(i % shores, family, 100);
        }
    }

    /** Some 13 days give 60 of ash and a few more, three days 14. */
    static KelpShores withAsh(int family, int days) {
        KelpShores x = withMuchDry(family, days);
        x.light(x.pit(family), x.has(family, 1));
        days(x, 3);
        return x;
    }

    static void days(KelpShores x, int many) {
        for (int i = 0; i < many; i++) {
            x.day(0, 0, 0, 0);
        }
    }

    static void enterUpTo(KelpShores x, int entries) {
        for (int i = x.count(5); i < entries; i++) {
            x.enter(0, 1, 0);
        }
    }

    static String allYear(int shore, int family, int share) {
        return right(shore, family, 0, 99, share);
    }

    static String right(int shore, int family, int from, int to, int share) {
        return "shore " + shore + " family " + family + " from " + from + " to " + to + " share " + share;
    }

    static int tell(KelpShores x, String text) {
        feedText(x, text);
        return x.rights();
    }

    /** Puts a text of at most 400 bytes, one for each sign, on an empty tape. */
    static void feedText(KelpShores x, String text) {
        for (int from = 0; from < text.length(); from += 20) {
            int[] numbers = new int[5];
            for (int i = from; i < from + 20; i++) {
                int sign = i < text.length() ? text.charAt(i) & 255 : 0;
                int place = (i - from) / 4;
                numbers[place] = numbers[place] << 8 | sign;
            }
            x.feed(numbers[0], numbers[1], numbers[2], numbers[3], numbers[4]);
        }
        if (!x.end(text.length())) {
            throw new IllegalStateException("the text does not fit on the tape");
        }
    }
}
