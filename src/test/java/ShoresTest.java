/** Promises 4 to 6 and 13 to 15: shore, rock, hands, look, cast, has. */
final class ShoresTest {
    private static final Checks CHECKS = new Checks();

    public static void main(String[] args) {
        shoresHaveAnEnd();
        rocksHaveAnEnd();
        rocksAtTheirBounds();
        handsOfAFamily();
        lookAtARock();
        hasOfAFamily();
        CHECKS.close();
    }

    private static void shoresHaveAnEnd() {
        KelpShores x = new KelpShores();
        for (int i = 0; i < 6; i++) {
            CHECKS.noIndex("cast of shore " + i + " ahead", () -> x.cast(x.count(1)));
            CHECKS.due("shore()", x.shore(), i);
            CHECKS.due("cast of a new shore", x.cast(i), 0);
            CHECKS.due("how many", x.count(1), i + 1);
        }
        CHECKS.noMore("a seventh shore", x::shore);
        CHECKS.due("there are still 6", x.count(1), 6);
        CHECKS.noIndex("cast(6)", () -> x.cast(6));
        CHECKS.noIndex("cast(-1)", () -> x.cast(-1));
        CHECKS.noIndex("cast(most)", () -> x.cast(Integer.MAX_VALUE));
        CHECKS.noIndex("a new shore has no rock", () -> x.look(5, 0, 0));
    }

    private static void rocksHaveAnEnd() {
        KelpShores x = Checks.withShores(2);
        for (int i = 0; i < 4; i++) {
            CHECKS.due("rock", x.rock(1, i, 10 + i), i);
        }
        CHECKS.noMore("a fifth rock", () -> x.rock(1, 0, 1));
        CHECKS.noArgument("a fifth rock with a wrong depth", () -> x.rock(1, 10, 1));
        CHECKS.noIndex("a rock of no shore, wrong in all", () -> x.rock(2, 10, 0));
        CHECKS.due("each shore has its own", x.rock(0, 5, 7), 0);
        CHECKS.due("the other's weed", x.look(1, 3, 0), 13);
        CHECKS.due("its weed", x.look(0, 0, 0), 7);
    }

    private static void rocksAtTheirBounds() {
        KelpShores x = Checks.withShores(1);
        int[][] wrong = {{-1, 1}, {10, 1}, {0, 0}, {0, 1001}, {0, -1},
            {Integer.MIN_VALUE, 1}, {0, Integer.MAX_VALUE}};
        for (int[] pair : wrong) {
            CHECKS.noArgument("rock(0, " + pair[0] + ", " + pair[1] + ")", () -> x.rock(0, pair[0], pair[1]));
        }
        CHECKS.noIndex("rock(-1, 0, 1)", () -> x.rock(-1, 0, 1));
        CHECKS.due("the least", x.rock(0, 0, 1), 0);
        CHECKS.due("the most", x.rock(0, 9, 1000), 1);
    }

    private static void handsOfAFamily() {
        KelpShores x = new KelpShores();
        for (int family = 0; family < 8; family++) {
            x.hands(family, family + 1);
        }
        for (int family = 0; family < 8; family++) {
            CHECKS.due("hands", x.has(family, 6), family + 1);
            CHECKS.due("work", x.has(family, 3), 5 * (family + 1));
        }
        x.hands(0, 20);
        CHECKS.due("20 hands", x.has(0, 3), 100);
        x.hands(0, 0);
        CHECKS.due("no hands", x.has(0, 3), 0);
        CHECKS.noArgument("21 hands", () -> x.hands(0, 21));
        CHECKS.noArgument("-1 hands", () -> x.hands(0, -1));
        CHECKS.due("still none", x.has(0, 6), 0);
        CHECKS.noIndex("hands of family 8", () -> x.hands(8, 21));
        CHECKS.noIndex("hands of family -1", () -> x.hands(-1, 1));
    }

    private static void lookAtARock() {
        KelpShores x = Checks.withShores(1);
        x.rock(0, 5, 400);
        int[] first = {400, KelpShores.NONE, 400, 0, 0};
        for (int what = 0; what < first.length; what++) {
            CHECKS.due("look first " + what, x.look(0, 0, what), first[what]);
        }
        Checks.tell(x, "shore 0 family 0 from 0 to 99 share 0; rest 0");
        x.cut(0, 0, 0, 20);
        x.day(0, 0, 0, 9);
        int[] later = {346, 0, 400, 20, 34};
        for (int what = 0; what < later.length; what++) {
            CHECKS.due("look later " + what, x.look(0, 0, what), later[what]);
        }
        Checks.days(x, 99);
        x.cut(0, 0, 0, 3);
        int[] nextYear = {357, 1, 414, 23, 34};
        for (int what = 0; what < nextYear.length; what++) {
            CHECKS.due("look next year " + what, x.look(0, 0, what), nextYear[what]);
        }
        CHECKS.noElement("look what 5", () -> x.look(0, 0, 5));
        CHECKS.noElement("look what -1", () -> x.look(0, 0, -1));
        CHECKS.noIndex("look at rock 1", () -> x.look(0, 1, 5));
        CHECKS.noIndex("look at rock -1", () -> x.look(0, -1, 0));
        CHECKS.noIndex("look at rock 4", () -> x.look(0, 4, 0));
        CHECKS.noIndex("look at shore 1", () -> x.look(1, 0, 5));
        CHECKS.noIndex("look at shore -1", () -> x.look(-1, 0, 0));
    }

    private static void hasOfAFamily() {
        KelpShores x = new KelpShores();
        CHECKS.noElement("has what 7", () -> x.has(0, 7));
        CHECKS.noElement("has what -1", () -> x.has(7, -1));
        CHECKS.noIndex("has of family 8", () -> x.has(8, 7));
        CHECKS.noIndex("has of family -1", () -> x.has(-1, 0));
    }
}
