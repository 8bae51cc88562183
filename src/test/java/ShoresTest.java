/** Promises 4 to 6 and 13 to 15: shore, rock, hands, look, cast, has; with the bounds of these in "Terms". */
final class ShoresTest {
    private static final Checks CHECKS = new Checks();

    public static void main(String[] args) {
        CHECKS.sentence("4: A SHORE without ROCKS: its number", ShoresTest::shoresWithoutRocks);
        CHECKS.sentence("4: UnsupportedOperationException: there are 6", ShoresTest::sixShores);
        CHECKS.sentence("5: A ROCK: its number", ShoresTest::rockNumbers);
        CHECKS.sentence("5: IllegalArgumentException: DEPTH is none (0 to 9)", ShoresTest::depths);
        CHECKS.sentence("5: IllegalArgumentException: ROOM is none (1 to 1000)", ShoresTest::rooms);
        CHECKS.sentence("5: UnsupportedOperationException: the SHORE has 4", ShoresTest::fourRocks);
        CHECKS.sentence("Terms: WEED (as much as ROOM at first)", ShoresTest::weedAtFirst);
        CHECKS.sentence("Terms: the YEAR of the latest cutting (NONE)", ShoresTest::yearOfTheLatestCutting);
        CHECKS.sentence("6: HANDS of a FAMILY, from now on", ShoresTest::handsFromNowOn);
        CHECKS.sentence("6: IllegalArgumentException: they are none (0 to 20)", ShoresTest::handsThatAreNone);
        CHECKS.sentence("Terms: HANDS (0 to 20; 4 at first)", ShoresTest::handsAtFirst);
        CHECKS.sentence("13: 0 WEED ... 4 that storms took", ShoresTest::lookAtARock);
        CHECKS.sentence("13: 2 all that grew (ROOM, at first, too)", ShoresTest::allThatGrew);
        CHECKS.sentence("13: NoSuchElementException: another what", ShoresTest::lookAtAnotherWhat);
        CHECKS.sentence("14: CAST weed of a SHORE", ShoresTest::castOfAShore);
        CHECKS.sentence("Terms: CAST weed of a SHORE (0 at first)", ShoresTest::castAtFirst);
        CHECKS.sentence("15: 0 WET, 1 DRY, 2 ASH ... 6 HANDS", ShoresTest::hasOfAFamily);
        CHECKS.sentence("15: 3 WORK that is left TODAY", ShoresTest::workThatIsLeft);
        CHECKS.sentence("15: NoSuchElementException: another what", ShoresTest::hasAnotherWhat);
        CHECKS.close();
    }

    private static void shoresWithoutRocks() {
        KelpShores x = new KelpShores();
        for (int i = 0; i < 6; i++) {
            int shore = i;
            CHECKS.due("shore()", x.shore(), i);
            CHECKS.noIndex("its rock 0", () -> x.look(shore, 0, 0));
            CHECKS.due("its first rock", x.rock(i, 0, 1), 0);
            CHECKS.due("rock 0 then", x.look(i, 0, 0), 1);
        }
    }

    private static void sixShores() {
        KelpShores x = new KelpShores();
        for (int i = 0; i < 6; i++) {
            CHECKS.due("shore()", x.shore(), i);
            CHECKS.due("how many", x.count(1), i + 1);
        }
        CHECKS.noMore("a seventh", x::shore);
        CHECKS.noMore("and again", x::shore);
        CHECKS.due("there are 6", x.count(1), 6);
        CHECKS.due("the sixth", x.cast(5), 0);
        CHECKS.noIndex("no seventh", () -> x.cast(6));
        InUse.isLeftBy(CHECKS, "a seventh shore", ShoresTest::fillShores, KelpShores::shore);
    }

    private static void fillShores(KelpShores x) {
        while (x.count(1) < 6) {
            x.shore();
        }
    }

    private static void rockNumbers() {
        KelpShores x = Scenes.withShores(2);
        for (int i = 0; i < 4; i++) {
            CHECKS.due("a rock of shore 1", x.rock(1, i, 10 + i), i);
        }
        CHECKS.due("the first of shore 0", x.rock(0, 5, 7), 0);
        CHECKS.due("its weed", x.look(0, 0, 0), 7);
        for (int i = 0; i < 4; i++) {
            CHECKS.due("weed of rock " + i, x.look(1, i, 0), 10 + i);
        }
        CHECKS.noIndex("rock 1 of shore 0", () -> x.look(0, 1, 0));
    }

    private static void depths() {
        KelpShores x = Scenes.withShores(4);
        int[] wrong = {-1, 10, Integer.MIN_VALUE, Integer.MAX_VALUE};
        for (int depth : wrong) {
            CHECKS.noArgument("depth " + depth, () -> x.rock(0, depth, 1));
        }
        for (int depth = 0; depth <= 9; depth++) {
            CHECKS.due("depth " + depth, x.rock(depth / 4, depth, 1), depth % 4);
        }
    }

    private static void rooms() {
        KelpShores x = Scenes.withShores(1);
        int[] wrong = {0, -1, 1001, Integer.MIN_VALUE, Integer.MAX_VALUE};
        for (int room : wrong) {
            CHECKS.noArgument("room " + room, () -> x.rock(0, 0, room));
        }
        int[] right = {1, 2, 999, 1000};
        for (int i = 0; i < right.length; i++) {
            CHECKS.due("room " + right[i], x.rock(0, 0, right[i]), i);
        }
    }

    private static void fourRocks() {
        KelpShores x = Scenes.withShores(2);
        for (int i = 0; i < 4; i++) {
            CHECKS.due("rock", x.rock(1, 0, 1), i);
        }
        CHECKS.noMore("a fifth", () -> x.rock(1, 0, 1));
        CHECKS.noIndex("no fifth", () -> x.look(1, 4, 0));
        CHECKS.due("the fourth", x.look(1, 3, 0), 1);
        CHECKS.due("the other shore has none", x.rock(0, 0, 1), 0);
        InUse.isLeftBy(CHECKS, "a fifth rock", ShoresTest::fillRocks, used -> used.rock(0, 1, 2));
    }

    private static void fillRocks(KelpShores x) {
        for (int i = InUse.ROCKS[0]; i < 4; i++) {
            x.rock(0, 3, 100);
        }
    }

    private static void weedAtFirst() {
        KelpShores x = Scenes.withShores(1);
        int[] rooms = {1, 2, 500, 1000};
        for (int i = 0; i < rooms.length; i++) {
            x.rock(0, i, rooms[i]);
            CHECKS.due("weed in a room of " + rooms[i], x.look(0, i, 0), rooms[i]);
        }
    }

    private static void yearOfTheLatestCutting() {
        KelpShores x = Scenes.withWeed(0, 9);
        CHECKS.due("ahead of any", x.look(0, 0, 1), KelpShores.NONE);
        Scenes.days(x, 99);
        CHECKS.due("still ahead of any", x.look(0, 0, 1), KelpShores.NONE);
        x.cut(0, 0, 0, 1);
        CHECKS.due("on the last day of year 0", x.look(0, 0, 1), 0);
        x.day(0, 0, 0, 0);
        CHECKS.due("it stays", x.look(0, 0, 1), 0);
        x.cut(0, 0, 0, 1);
        CHECKS.due("on the first day of year 1", x.look(0, 0, 1), 1);
        CHECKS.due("another rock", x.look(0, 1, 1), KelpShores.NONE);
    }

    private static void handsFromNowOn() {
        KelpShores x = new KelpShores();
        for (int family = 0; family < 8; family++) {
            x.hands(family, family + 1);
        }
        x.day(0, 0, 0, 0);
        for (int family = 0; family < 8; family++) {
            CHECKS.due("hands", x.has(family, 6), family + 1);
            CHECKS.due("work", x.has(family, 3), 5 * (family + 1));
        }
        x.hands(3, 9);
        CHECKS.due("on the same day", x.has(3, 3), 45);
        CHECKS.due("another's", x.has(4, 6), 5);
    }

    private static void handsThatAreNone() {
        KelpShores x = new KelpShores();
        int[] wrong = {-1, 21, Integer.MIN_VALUE, Integer.MAX_VALUE};
        for (int n : wrong) {
            CHECKS.noArgument(n + " hands", () -> x.hands(0, n));
            CHECKS.due("as they were", x.has(0, 6), 4);
        }
        int[] right = {0, 1, 19, 20};
        for (int n : right) {
            x.hands(0, n);
            CHECKS.due(n + " hands", x.has(0, 6), n);
            CHECKS.due("work of " + n + " hands", x.has(0, 3), 5 * n);
        }
    }

    private static void handsAtFirst() {
        KelpShores x = Scenes.withShores(1);
        x.rock(0, 9, 100);
        Scenes.tell(x, Scenes.allYear(0, 5, 0));
        CHECKS.due("hands", x.has(5, 6), 4);
        CHECKS.due("work for 21", x.cut(0, 0, 5, 21), 5);
        CHECKS.due("work for 20", x.cut(0, 0, 5, 20), 0);
    }

    private static void looks(String when, KelpShores x, int... due) {
        for (int what = 0; what < due.length; what++) {
            CHECKS.due("what " + what + " " + when, x.look(0, 0, what), due[what]);
        }
    }

    private static void lookAtARock() {
        KelpShores x = Scenes.withShores(1);
        x.rock(0, 5, 400);
        looks("at first", x, 400, KelpShores.NONE, 400, 0, 0);
        Scenes.tell(x, Scenes.allYear(0, 0, 0) + "; rest 0");
        x.cut(0, 0, 0, 20);
        x.day(0, 0, 0, 9);
        looks("behind a storm", x, 346, 0, 400, 20, 34);
        Scenes.days(x, 99);
        x.cut(0, 0, 0, 3);
        looks("in the next year", x, 357, 1, 414, 23, 34);
        x.cut(0, 0, 0, 4);
        x.day(0, 0, 0, 5);
        looks("behind another storm", x, 336, 1, 414, 27, 51);
    }

    private static void allThatGrew() {
        KelpShores x = Scenes.withWeed(0, 9);
        CHECKS.due("at first", x.look(0, 0, 2), 1000);
        x.cut(0, 0, 0, 100);
        CHECKS.due("cutting is no growth", x.look(0, 0, 2), 1000);
        Scenes.days(x, 100);
        CHECKS.due("a quarter of 100", x.look(0, 0, 2), 1025);
        CHECKS.due("a full rock", x.look(0, 1, 2), 1000);
    }

    private static void lookAtAnotherWhat() {
        KelpShores x = Scenes.withWeed(0, 9);
        int[] wrong = {-1, 5, Integer.MIN_VALUE, Integer.MAX_VALUE};
        for (int what : wrong) {
            CHECKS.noElement("what " + what, () -> x.look(0, 0, what));
        }
        for (int what = 0; what <= 4; what++) {
            int each = what;
            CHECKS.noThrow("what " + what, () -> x.look(0, 0, each));
        }
    }

    private static void castOfAShore() {
        KelpShores x = Scenes.withShores(3);
        x.rock(0, 0, 1000);
        x.rock(0, 1, 500);
        x.rock(1, 0, 200);
        x.day(0, 0, 0, 2);
        CHECKS.due("shore 0", x.cast(0), 30);
        CHECKS.due("shore 1", x.cast(1), 4);
        CHECKS.due("shore 2", x.cast(2), 0);
        Scenes.tell(x, Scenes.allYear(0, 0, 0));
        x.gather(0, 0, 11);
        CHECKS.due("what is left of shore 0", x.cast(0), 19);
        CHECKS.due("shore 1 still", x.cast(1), 4);
    }

    private static void castAtFirst() {
        KelpShores x = new KelpShores();
        for (int shore = 0; shore < 6; shore++) {
            x.shore();
            CHECKS.due("ahead of its rocks", x.cast(shore), 0);
            x.rock(shore, 0, 1000);
            CHECKS.due("behind its rocks", x.cast(shore), 0);
        }
    }

    private static void hasAre(String when, KelpShores x, int... due) {
        for (int what = 0; what < due.length; what++) {
            CHECKS.due("what " + what + " " + when, x.has(0, what), due[what]);
        }
    }

    private static void hasOfAFamily() {
        KelpShores x = Scenes.withWeed(0, 9);
        hasAre("at first", x, 0, 0, 0, 100, 0, 0, 20);
        x.cut(0, 0, 0, 100);
        hasAre("behind a cutting", x, 100, 0, 0, 0, 0, 0, 20);
        x.day(0, 9, 0, 0);
        x.cut(0, 1, 0, 99);
        hasAre("behind wind", x, 111, 22, 0, 1, 0, 0, 20);
        x.day(0, 9, 0, 0);
        hasAre("behind more wind", x, 15, 46, 0, 100, 0, 0, 20);
        x.pit(0);
        x.light(0, 25);
        hasAre("behind lighting", x, 15, 21, 0, 100, 0, 0, 20);
        x.day(0, 9, 2, 0);
        x.pit(0);
        x.light(1, 21);
        Scenes.days(x, 2);
        hasAre("behind burning", x, 15, 0, 5, 100, 0, 0, 20);
        x.day(0, 0, 3, 0);
        hasAre("with the second pit out", x, 15, 10, 5, 100, 0, 11, 20);
        x.day(0, 0, 5, 0);
        hasAre("behind rain", x, 15, 9, 5, 100, 1, 11, 20);
    }

    private static void workThatIsLeft() {
        KelpShores x = Scenes.withWeed(0, 9);
        x.cut(0, 0, 0, 30);
        CHECKS.due("70 of 100", x.has(0, 3), 70);
        x.cut(0, 1, 0, 70);
        CHECKS.due("none of 100", x.has(0, 3), 0);
        x.hands(0, 19);
        CHECKS.due("not below none", x.has(0, 3), 0);
        x.hands(0, 20);
        CHECKS.due("none again", x.has(0, 3), 0);
        x.day(0, 0, 0, 0);
        CHECKS.due("all on the next day", x.has(0, 3), 100);
        CHECKS.due("another's", x.has(1, 3), 20);
    }

    private static void hasAnotherWhat() {
        KelpShores x = new KelpShores();
        int[] wrong = {-1, 7, Integer.MIN_VALUE, Integer.MAX_VALUE};
        for (int what : wrong) {
            CHECKS.noElement("what " + what, () -> x.has(7, what));
        }
        for (int what = 0; what <= 6; what++) {
            int each = what;
            CHECKS.noThrow("what " + what, () -> x.has(7, each));
        }
    }
}
