/** Promises 20 to 24: sell, lot, enter, undo, balance. */
final class StoreTest {
    private static final Checks CHECKS = new Checks();
    private static final int FAMILY = 6;

    public static void main(String[] args) {
        strengthAndPrice();
        sellingAtItsBounds();
        sellingHasAnEnd();
        lotsOfAFamily();
        enteringAtItsBounds();
        balanceByDays();
        takenBack();
        aLotTakenBack();
        CHECKS.close();
    }

    /** 400 of weed are cut, dried and burnt: 19 of ash. */
    private static KelpShores withAsh() {
        KelpShores x = Checks.withShores(1);
        for (int rock = 0; rock < 4; rock++) {
            x.rock(0, 9, 1000);
        }
        x.hands(FAMILY, 20);
        Checks.tell(x, "shore 0 family " + FAMILY + " from 0 to 99 share 0");
        x.pit(FAMILY);
        for (int day = 0; day < 4; day++) {
            x.cut(0, day, FAMILY, 100);
            x.day(0, 9, 0, 0);
        }
        Checks.days(x, 5);
        x.light(0, x.has(FAMILY, 1));
        Checks.days(x, 3);
        return x;
    }

    private static void lotIs(KelpShores x, int lot, int... due) {
        for (int what = 0; what < due.length; what++) {
            CHECKS.due("lot(" + lot + ", " + what + ")", x.lot(lot, what), due[what]);
        }
    }

    private static void strengthAndPrice() {
        KelpShores x = withAsh();
        CHECKS.due("ash", x.has(FAMILY, 2), 19);
        CHECKS.due("three tests", x.sell(FAMILY, 2, 3, 50, 40, 60, -1, 100), 0);
        lotIs(x, 0, FAMILY, 2, 50, 0, 100, 0);
        CHECKS.due("four tests", x.sell(FAMILY, 3, 4, 60, 55, 40, 50, 100), 1);
        lotIs(x, 1, FAMILY, 3, 50, 0, 150, 1);
        CHECKS.due("five tests", x.sell(FAMILY, 1, 5, 50, 40, 60, 55, 52), 2);
        lotIs(x, 2, FAMILY, 1, 52, 0, 52, 2);
        CHECKS.due("apart by 21", x.sell(FAMILY, 4, 5, 50, 40, 61, 55, 45), 3);
        lotIs(x, 3, FAMILY, 4, 40, 1, 160, 3);
        CHECKS.due("apart by the fourth", x.sell(FAMILY, 1, 4, 50, 50, 50, 99, 0), 4);
        lotIs(x, 4, FAMILY, 1, 50, 1, 50, 4);
        CHECKS.due("all of nothing", x.sell(FAMILY, 1, 3, 0, 0, 0, 0, 0), 5);
        lotIs(x, 5, FAMILY, 1, 0, 0, 0, 5);
        CHECKS.due("all of the most", x.sell(FAMILY, 1, 5, 99, 99, 99, 99, 99), 6);
        lotIs(x, 6, FAMILY, 1, 99, 0, 99, 6);
        CHECKS.due("ash left", x.has(FAMILY, 2), 6);
        CHECKS.due("lots", x.count(4), 7);
        CHECKS.due("entries", x.count(5), 7);
        CHECKS.due("balance", x.balance(FAMILY, x.count(0), x.count(0)), 611);
        CHECKS.due("for today", x.balance(FAMILY, x.count(0) - 1, x.count(0)), 0);
        CHECKS.due("told today", x.balance(FAMILY, x.count(0), x.count(0) - 1), 0);
        everyOrderOfFive(x);
    }

    /** The middle one does not hang on the order: each test stands once in each place. */
    private static void everyOrderOfFive(KelpShores x) {
        int[] tests = {10, 12, 14, 16, 18};
        int seen = 0;
        for (int a = 0; a < 5 && x.has(FAMILY, 2) > 0; a++) {
            int b = (a + 3) % 5;
            int c = (a + 1) % 5;
            int d = (a + 4) % 5;
            int e = (a + 2) % 5;
            int lot = x.sell(FAMILY, 1, 5, tests[a], tests[b], tests[c], tests[d], tests[e]);
            CHECKS.due("the middle one", x.lot(lot, 2), 14);
            seen++;
        }
        CHECKS.due("five orders", seen, 5);
    }

    private static void sellingAtItsBounds() {
        KelpShores x = withAsh();
        int[] amounts = {0, -1, 1001, Integer.MIN_VALUE, Integer.MAX_VALUE};
        for (int n : amounts) {
            CHECKS.noArgument("sell " + n, () -> x.sell(FAMILY, n, 3, 1, 1, 1, 1, 1));
        }
        int[] manies = {2, 6, 0, -1, Integer.MIN_VALUE, Integer.MAX_VALUE};
        for (int many : manies) {
            CHECKS.noArgument("tests: " + many, () -> x.sell(FAMILY, 1, many, 1, 1, 1, 1, 1));
        }
        int[] tests = {-1, 100};
        for (int t : tests) {
            CHECKS.noArgument("first test " + t, () -> x.sell(FAMILY, 1, 3, t, 1, 1, 1, 1));
            CHECKS.noArgument("second test " + t, () -> x.sell(FAMILY, 1, 3, 1, t, 1, 1, 1));
            CHECKS.noArgument("third test " + t, () -> x.sell(FAMILY, 1, 3, 1, 1, t, 1, 1));
            CHECKS.noArgument("fourth test " + t, () -> x.sell(FAMILY, 1, 4, 1, 1, 1, t, 1));
            CHECKS.noArgument("fifth test " + t, () -> x.sell(FAMILY, 1, 5, 1, 1, 1, 1, t));
            CHECKS.noArgument("too much ash, test " + t, () -> x.sell(FAMILY, 1000, 5, 1, 1, 1, 1, t));
        }
        CHECKS.noIndex("sell of family 8", () -> x.sell(8, 0, 0, -1, 1, 1, 1, 1));
        CHECKS.noIndex("sell of family -1", () -> x.sell(-1, 1, 3, 1, 1, 1, 1, 1));
        CHECKS.due("too much ash", x.sell(FAMILY, 20, 3, 1, 1, 1, 1, 1), KelpShores.NONE);
        CHECKS.due("no ash at all", x.sell(0, 1, 3, 1, 1, 1, 1, 1), KelpShores.NONE);
        CHECKS.due("no lot", x.count(4), 0);
        CHECKS.due("no entry", x.count(5), 0);
        CHECKS.due("all ash", x.has(FAMILY, 2), 19);
        CHECKS.due("sell all", x.sell(FAMILY, 19, 3, 1, 1, 1, 1, 1), 0);
        CHECKS.due("none is left", x.has(FAMILY, 2), 0);
    }

    private static void sellingHasAnEnd() {
        KelpShores x = withAsh();
        for (int i = 0; i < 198; i++) {
            x.enter(0, 1, 0);
        }
        CHECKS.due("the entry ahead of the last", x.sell(FAMILY, 1, 3, 1, 1, 1, 1, 1), 0);
        CHECKS.due("its entry", x.lot(0, 5), 198);
        CHECKS.due("the last entry", x.sell(FAMILY, 1, 3, 1, 1, 1, 1, 1), 1);
        CHECKS.due("no entry more for a lot", x.sell(FAMILY, 1, 3, 1, 1, 1, 1, 1), KelpShores.NONE);
        CHECKS.due("no entry more", x.enter(0, 1, 0), KelpShores.NONE);
        CHECKS.noArgument("no entry more, and wrong", () -> x.enter(0, 1, -1));
        CHECKS.noArgument("no lot more, and wrong", () -> x.sell(FAMILY, 0, 3, 1, 1, 1, 1, 1));
        CHECKS.due("entries", x.count(5), 200);
        CHECKS.due("ash stays", x.has(FAMILY, 2), 17);
        CHECKS.due("balance of 198", x.balance(0, 0, 9999), 198);
        CHECKS.due("a taken back entry leaves no place", x.undo(0), true);
        CHECKS.due("still none", x.enter(0, 1, 0), KelpShores.NONE);
        sixtyLots();
    }

    private static void sixtyLots() {
        KelpShores x = withAsh();
        moreAsh(x);
        for (int i = 0; i < 60; i++) {
            CHECKS.due("lot", x.sell(FAMILY, 1, 3, i, i, i, 0, 0), i);
        }
        CHECKS.due("a lot more", x.sell(FAMILY, 1, 3, 1, 1, 1, 0, 0), KelpShores.NONE);
        CHECKS.due("lots", x.count(4), 60);
        CHECKS.due("the last lot's strength", x.lot(59, 2), 59);
        CHECKS.due("entries", x.count(5), 60);
        CHECKS.due("an entry still comes", x.enter(FAMILY, 1, 1), 60);
        CHECKS.noIndex("lot(60, 0)", () -> x.lot(60, 0));
    }

    /** Storms cast up what the rocks still have, a hundred a day is gathered, dried and burnt. */
    private static void moreAsh(KelpShores x) {
        for (int i = 0; i < 12; i++) {
            x.day(9, 9, 0, 9);
            x.gather(0, FAMILY, Math.min(100, x.cast(0)));
        }
        for (int i = 0; i < 3; i++) {
            x.day(9, 9, 0, 0);
        }
        x.light(0, x.has(FAMILY, 1));
        Checks.days(x, 3);
        CHECKS.due("ash for more than 60 lots", x.has(FAMILY, 2) > 60, true);
    }

    private static void lotsOfAFamily() {
        KelpShores x = withAsh();
        CHECKS.noIndex("lot ahead", () -> x.lot(0, 0));
        x.enter(FAMILY, 3, 3);
        x.sell(FAMILY, 7, 3, 30, 20, 10, 0, 0);
        lotIs(x, 0, FAMILY, 7, 20, 0, 140, 1);
        CHECKS.noElement("lot what 6", () -> x.lot(0, 6));
        CHECKS.noElement("lot what -1", () -> x.lot(0, -1));
        CHECKS.noIndex("lot(1, 6)", () -> x.lot(1, 6));
        CHECKS.noIndex("lot(-1, 0)", () -> x.lot(-1, 0));
        CHECKS.noIndex("lot(60, 0)", () -> x.lot(60, 0));
    }

    private static void enteringAtItsBounds() {
        KelpShores x = new KelpShores();
        CHECKS.due("the most money", x.enter(0, 100000, 0), 0);
        CHECKS.due("the most debt", x.enter(1, -100000, 9999), 1);
        CHECKS.due("nothing", x.enter(2, 0, 5), 2);
        int[] money = {100001, -100001, Integer.MAX_VALUE, Integer.MIN_VALUE};
        for (int m : money) {
            CHECKS.noArgument("money " + m, () -> x.enter(0, m, 0));
        }
        int[] days = {-1, 10000, Integer.MAX_VALUE, Integer.MIN_VALUE};
        for (int d : days) {
            CHECKS.noArgument("day " + d, () -> x.enter(0, 0, d));
        }
        CHECKS.noIndex("enter of family 8", () -> x.enter(8, 100001, -1));
        CHECKS.noIndex("enter of family -1", () -> x.enter(-1, 0, 0));
        CHECKS.due("three came", x.count(5), 3);
        CHECKS.due("money", x.balance(0, 0, 0), 100000);
        CHECKS.due("debt ahead of its day", x.balance(1, 9998, 0), 0);
        CHECKS.due("debt", x.balance(1, 9999, 0), -100000);
    }

    private static void balanceByDays() {
        KelpShores x = new KelpShores();
        Checks.days(x, 10);
        x.enter(0, 1, 5);
        x.enter(0, 10, 10);
        x.enter(1, 5000, 5);
        Checks.days(x, 10);
        x.enter(0, 100, 5);
        x.enter(0, -1000, 30);
        int[][] due = {{4, 99, 0}, {5, 9, 0}, {5, 10, 1}, {5, 19, 1}, {5, 20, 101}, {9, 15, 1}, {10, 15, 11},
            {29, 20, 111}, {30, 20, -889}, {30, 19, 11}, {30, 9, 0}, {9999, 9999, -889}, {-1, 9999, 0},
            {9999, -1, 0}, {Integer.MAX_VALUE, Integer.MAX_VALUE, -889},
            {Integer.MIN_VALUE, Integer.MAX_VALUE, 0}, {Integer.MAX_VALUE, Integer.MIN_VALUE, 0}};
        for (int[] each : due) {
            CHECKS.due("balance by " + each[0] + " known on " + each[1], x.balance(0, each[0], each[1]), each[2]);
        }
        CHECKS.due("another family's", x.balance(1, 5, 10), 5000);
        CHECKS.noIndex("balance of family 8", () -> x.balance(8, 0, 0));
        CHECKS.noIndex("balance of family -1", () -> x.balance(-1, 0, 0));
    }

    private static void takenBack() {
        KelpShores x = new KelpShores();
        Checks.days(x, 3);
        x.enter(0, 7, 1);
        x.enter(0, 70, 1);
        Checks.days(x, 2);
        CHECKS.due("taken back", x.undo(0), true);
        Checks.days(x, 2);
        CHECKS.due("taken back already", x.undo(0), false);
        CHECKS.due("known ahead of that day", x.balance(0, 1, 4), 77);
        CHECKS.due("not from that day on", x.balance(0, 1, 5), 70);
        CHECKS.due("nor later", x.balance(0, 1, 99), 70);
        CHECKS.due("taken back on its day", x.undo(x.enter(0, 700, 1)), true);
        CHECKS.due("never known", x.balance(0, 1, 7), 70);
        CHECKS.due("nor ahead", x.balance(0, 1, 6), 70);
        CHECKS.due("it has its number", x.count(5), 3);
        CHECKS.noIndex("undo(3)", () -> x.undo(3));
        CHECKS.noIndex("undo(-1)", () -> x.undo(-1));
        CHECKS.noIndex("undo(200)", () -> x.undo(200));
        KelpShores first = new KelpShores();
        first.enter(0, 5, 0);
        CHECKS.due("taken back on day 0", first.undo(0), true);
        CHECKS.due("but once", first.undo(0), false);
        CHECKS.due("not known on day 0", first.balance(0, 0, 0), 0);
    }

    private static void aLotTakenBack() {
        KelpShores x = withAsh();
        x.sell(FAMILY, 2, 3, 50, 50, 50, 0, 0);
        int today = x.count(0);
        CHECKS.due("its price", x.balance(FAMILY, today, today), 100);
        x.day(0, 0, 0, 0);
        CHECKS.due("taken back", x.undo(x.lot(0, 5)), true);
        CHECKS.due("not known", x.balance(FAMILY, today, today + 1), 0);
        CHECKS.due("known then", x.balance(FAMILY, today, today), 100);
        CHECKS.due("the lot stays", x.lot(0, 4), 100);
        CHECKS.due("no ash comes back", x.has(FAMILY, 2), 17);
    }
}
