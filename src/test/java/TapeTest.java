/** Promises 1 to 3: a new object, feed, end. */
final class TapeTest {
    private static final Checks CHECKS = new Checks();
    private static final int REST = 0x72657374;
    private static final int BLANKS = 0x20202020;

    public static void main(String[] args) {
        CHECKS.sentence("1: No SHORES", TapeTest::noShores);
        CHECKS.sentence("1: no RIGHTS", TapeTest::noRights);
        CHECKS.sentence("1: all as at first (what is counted)", TapeTest::countsAtFirst);
        CHECKS.sentence("1: all as at first (families)", TapeTest::familiesAtFirst);
        CHECKS.sentence("1: all as at first (the tape)", TapeTest::tapeAtFirst);
        CHECKS.sentence("1: A new object", TapeTest::apartFromOthers);
        CHECKS.sentence("2: Twenty bytes come behind the TAPE", TapeTest::bytesComeBehind);
        CHECKS.sentence("2: of each number the highest first", TapeTest::highestFirst);
        CHECKS.sentence("2: how many it has", TapeTest::howManyItHas);
        CHECKS.sentence("2: NONE, and none come, if it would have more than 400", TapeTest::noMoreThan400);
        CHECKS.sentence("3: The TAPE has its first n bytes alone: true", TapeTest::firstBytesAlone);
        CHECKS.sentence("3: false, and nothing happens, if it has fewer", TapeTest::ifItHasFewer);
        CHECKS.sentence("3: or n is below 0", TapeTest::belowNone);
        CHECKS.close();
    }

    private static void noShores() {
        KelpShores x = new KelpShores();
        CHECKS.due("shores", x.count(1), 0);
        CHECKS.noIndex("shore 0 ahead of any", () -> x.cast(0));
        CHECKS.noIndex("its rock", () -> x.look(0, 0, 0));
        CHECKS.due("the first", x.shore(), 0);
        CHECKS.due("shore 0 then", x.cast(0), 0);
    }

    private static void noRights() {
        KelpShores x = Scenes.withShores(1);
        x.rock(0, 9, 1);
        CHECKS.due("parts with rights", x.count(8), 0);
        for (int family = 0; family < 8; family++) {
            CHECKS.due("day 0", x.may(0, family, 0), false);
            CHECKS.due("day 99", x.may(0, family, 99), false);
            CHECKS.due("cut", x.cut(0, 0, family, 1), 1);
            CHECKS.due("gather", x.gather(0, family, 1), 1);
        }
        Scenes.tell(x, Scenes.allYear(0, 0, 0));
        CHECKS.due("a right then", x.may(0, 0, 0), true);
    }

    private static void countsAtFirst() {
        KelpShores x = new KelpShores();
        int[] counts = {0, 0, 0, 0, 0, 0, 0, 2, 0};
        for (int what = 0; what < counts.length; what++) {
            CHECKS.due("count(" + what + ")", x.count(what), counts[what]);
        }
        CHECKS.due("NONE", KelpShores.NONE, -1);
        CHECKS.due("fault", x.fault(), KelpShores.NONE);
        CHECKS.due("plan", x.plan(), 0);
        CHECKS.noIndex("pit 0", () -> x.burns(0));
        CHECKS.noIndex("lot 0", () -> x.lot(0, 0));
        CHECKS.noIndex("entry 0", () -> x.undo(0));
    }

    private static void familiesAtFirst() {
        KelpShores x = Scenes.withShores(1);
        int[] first = {0, 0, 0, 20, 0, 0, 4};
        for (int family = 0; family < 8; family++) {
            for (int what = 0; what < first.length; what++) {
                CHECKS.due("has(" + family + ", " + what + ")", x.has(family, what), first[what]);
            }
            CHECKS.due("balance", x.balance(family, 9999, 9999), 0);
            CHECKS.due("owes", x.owes(family, 0, 0), 0);
        }
    }

    private static void tapeAtFirst() {
        KelpShores x = new KelpShores();
        CHECKS.due("one byte", x.end(1), false);
        CHECKS.due("no byte", x.end(0), true);
        CHECKS.noArgument("rights of an empty tape", x::rights);
        CHECKS.due("its fault", x.fault(), 0);
    }

    private static void apartFromOthers() {
        KelpShores used = InUse.made();
        KelpShores x = Scenes.withShores(1);
        CHECKS.due("the other has more", used.count(1), InUse.SHORES);
        CHECKS.due("today", x.count(0), 0);
        CHECKS.due("rest", x.count(7), 2);
        CHECKS.due("a right", x.may(0, 6, 0), false);
        CHECKS.due("hands", x.has(6, 6), 4);
        CHECKS.due("the tape", x.end(1), false);
        CHECKS.due("all of the other", InUse.allOf(used), InUse.allOf(InUse.made()));
    }

    private static void bytesComeBehind() {
        KelpShores x = new KelpShores();
        x.feed(REST, 0x31203132, 0, 0, 0);
        x.end(6);
        x.feed(BLANKS, BLANKS, BLANKS, BLANKS, 0x2020203b);
        CHECKS.noArgument("'rest1', 20 blanks and ';'", x::rights);
        CHECKS.due("all 26 stand", x.fault(), 26);
        x.feed(BLANKS, BLANKS, BLANKS, BLANKS, REST);
        x.feed(0x37202020, BLANKS, BLANKS, BLANKS, BLANKS);
        CHECKS.due("a word of the first, a number of the second", x.rights(), 1);
        CHECKS.due("its rest", x.count(7), 7);
    }

    private static void highestFirst() {
        KelpShores x = new KelpShores();
        x.feed(0x20726573, 0x74202031, 0x203b7265, 0x73743138, 0x20202020);
        CHECKS.due("' rest  1 ;rest18    '", x.rights(), 2);
        CHECKS.due("its rest", x.count(7), 18);
        x.feed(0x74736572, BLANKS, 0, 0, 0);
        CHECKS.noArgument("the lowest first", x::rights);
        CHECKS.due("'tser'", x.fault(), 0);
        x.feed(REST, 0x80ffffff, 0, 0, 0);
        CHECKS.noArgument("bytes above 127", x::rights);
        CHECKS.due("the first of them", x.fault(), 4);
        x.feed(REST, 0x3180ffff, 0, 0, 0);
        CHECKS.noArgument("a digit ahead of them", x::rights);
        CHECKS.due("the first of them, one later", x.fault(), 5);
    }

    private static void howManyItHas() {
        KelpShores x = new KelpShores();
        for (int length = 20; length <= 400; length += 20) {
            CHECKS.due("feed", x.feed(0, -1, Integer.MIN_VALUE, Integer.MAX_VALUE, 7), length);
        }
        CHECKS.due("end(7)", x.end(7), true);
        CHECKS.due("feed behind 7", x.feed(0, 0, 0, 0, 0), 27);
        CHECKS.due("end(0)", x.end(0), true);
        CHECKS.due("feed behind 0", x.feed(0, 0, 0, 0, 0), 20);
    }

    private static void noMoreThan400() {
        int[] lengths = {379, 380, 381, 399, 400};
        for (int length : lengths) {
            KelpShores x = new KelpShores();
            for (int i = 0; i < 20; i++) {
                x.feed(BLANKS, BLANKS, BLANKS, BLANKS, BLANKS);
            }
            x.end(length);
            int after = length + 20 > 400 ? length : length + 20;
            CHECKS.due("feed behind " + length, x.feed(REST, 0, 0, 0, 0),
                    after == length ? KelpShores.NONE : after);
            CHECKS.due("more than " + after, x.end(after + 1), false);
            CHECKS.noArgument("rights", x::rights);
            CHECKS.due("the bytes that stand", x.fault(), after == length ? length : length + 4);
        }
        InUse.isLeftBy(CHECKS, "feed on a full tape", TapeTest::fill, x -> x.feed(1, 2, 3, 4, 5));
    }

    private static void fill(KelpShores x) {
        for (int i = 0; i < 20; i++) {
            x.feed(BLANKS, BLANKS, BLANKS, BLANKS, BLANKS);
        }
    }

    private static void firstBytesAlone() {
        KelpShores x = new KelpShores();
        x.feed(REST, 0x31323334, 0, 0, 0);
        CHECKS.due("all of them", x.end(20), true);
        CHECKS.due("still all of them", x.end(20), true);
        CHECKS.due("five", x.end(5), true);
        CHECKS.due("six then", x.end(6), false);
        CHECKS.due("'rest1', with digits cut off", x.rights(), 1);
        CHECKS.due("its rest", x.count(7), 1);
        endsAt(x, 4, "a number cut off", REST, 0x37372020);
        endsAt(x, 4, "letters cut off", REST, 0x78782020);
        endsAt(x, 3, "blanks cut off", BLANKS, BLANKS);
        endsAt(x, 0, "all cut off", REST, 0x37202020);
    }

    private static void endsAt(KelpShores x, int n, String what, int first, int second) {
        x.feed(first, second, BLANKS, BLANKS, BLANKS);
        CHECKS.due("end(" + n + ")", x.end(n), true);
        CHECKS.noArgument(what, x::rights);
        CHECKS.due("the text's length, " + what, x.fault(), n);
    }

    private static void ifItHasFewer() {
        KelpShores x = new KelpShores();
        CHECKS.due("end(1) of none", x.end(1), false);
        x.feed(REST, 0x39202020, BLANKS, BLANKS, BLANKS);
        CHECKS.due("end(21) of 20", x.end(21), false);
        CHECKS.due("end(most)", x.end(Integer.MAX_VALUE), false);
        CHECKS.due("all stand still", x.rights(), 1);
        CHECKS.due("its rest", x.count(7), 9);
        InUse.isLeftBy(CHECKS, "end(400)", used -> used.end(400));
    }

    private static void belowNone() {
        KelpShores x = new KelpShores();
        x.feed(REST, 0x39202020, BLANKS, BLANKS, BLANKS);
        CHECKS.due("end(-1)", x.end(-1), false);
        CHECKS.due("end(least)", x.end(Integer.MIN_VALUE), false);
        CHECKS.due("all stand still", x.rights(), 1);
        x.feed(REST, 0x39202020, BLANKS, BLANKS, BLANKS);
        CHECKS.due("end(0)", x.end(0), true);
        CHECKS.noArgument("nothing is left", x::rights);
        InUse.isLeftBy(CHECKS, "end(-1)", used -> used.end(-1));
    }
}
