/** Promises 20 to 24: sell, lot, enter, undo, balance; with the sentences of "==== 3". */
final class StoreTest {
    private static final Checks CHECKS = new Checks();
    private static final int FAMILY = 6;
    private static final int DAYS_FOR_60_LOTS = 13;

    public static void main(String[] args) {
        CHECKS.sentence("20: A LOT: its number", StoreTest::lotNumbers);
        CHECKS.sentence("20: NONE, and nothing happens, if there is not so much ASH", StoreTest::notSoMuchAsh);
        CHECKS.sentence("20: or there are 60 LOTS", StoreTest::sixtyLots);
        CHECKS.sentence("20: or 200 ENTRIES", StoreTest::noEntryForALot);
        CHECKS.sentence("20: Of TESTS the first many (3 to 5) count", StoreTest::theFirstManyCount);
        CHECKS.sentence("20: IllegalArgumentException: n is none (1 to 1000)", StoreTest::amountsThatAreNone);
        CHECKS.sentence("20: IllegalArgumentException: many is none (3 to 5)", StoreTest::maniesThatAreNone);
        CHECKS.sentence("20: IllegalArgumentException: a TEST that counts is none (0 to 99)",
                StoreTest::testsThatAreNone);
        CHECKS.sentence("==== 3: STRENGTH: the middle one by greatness", StoreTest::theMiddleOne);
        CHECKS.sentence("==== 3: of 4 the lesser of both in the middle", StoreTest::theLesserOfBoth);
        CHECKS.sentence("==== 3: apart by more than 20 the LOT is DOUBTED", StoreTest::doubted);
        CHECKS.sentence("==== 3: STRENGTH is the least", StoreTest::theLeastOfADoubted);
        CHECKS.sentence("==== 3: PRICE: n times STRENGTH", StoreTest::price);
        CHECKS.sentence("==== 3: n (1 to 1000): the most ASH for the most money", StoreTest::theMostAsh);
        CHECKS.sentence("==== 3: a LOT's PRICE is an ENTRY of TODAY, for TODAY", StoreTest::entryOfALot);
        CHECKS.sentence("21: 0 FAMILY, 1 n, 2 STRENGTH, 3 DOUBTED, 4 PRICE, 5 its ENTRY", StoreTest::ofALot);
        CHECKS.sentence("21: NoSuchElementException: another what", StoreTest::anotherWhat);
        CHECKS.sentence("22: An ENTRY told TODAY for a day: its number", StoreTest::entryNumbers);
        CHECKS.sentence("22: NONE, and it does not come, if there are 200", StoreTest::twoHundredEntries);
        CHECKS.sentence("22: IllegalArgumentException: money is not - 100000 to 100000", StoreTest::moneyThatIsNone);
        CHECKS.sentence("22: the day not 0 to 9999", StoreTest::daysThatAreNone);
        CHECKS.sentence("23: An ENTRY is taken back: whether it was not", StoreTest::takenBack);
        CHECKS.sentence("24: of all ENTRIES for days up to that", StoreTest::forDaysUpToThat);
        CHECKS.sentence("24: that were known then", StoreTest::knownThen);
        CHECKS.sentence("24: BALANCE of a FAMILY", StoreTest::ofAFamily);
        CHECKS.sentence("==== 3: An ENTRY taken back is not known from that day on", StoreTest::notKnownFromThatDayOn);
        CHECKS.close();
    }

    private static KelpShores withAsh() {
        return Scenes.withAsh(FAMILY, DAYS_FOR_60_LOTS);
    }

    private static int sellOne(KelpShores x, int many, int... tests) {
        return x.sell(FAMILY, 1, many, tests[0], tests[1], tests[2], tests.length > 3 ? tests[3] : 0,
                tests.length > 4 ? tests[4] : 0);
    }

    private static void lotNumbers() {
        KelpShores x = withAsh();
        for (int i = 0; i < 5; i++) {
            CHECKS.due("lot", sellOne(x, 3, 1, 2, 3), i);
            CHECKS.due("how many", x.count(4), i + 1);
        }
        CHECKS.due("entries", x.count(5), 5);
    }

    private static void notSoMuchAsh() {
        KelpShores x = withAsh();
        int ash = x.has(FAMILY, 2);
        CHECKS.due("one too many", x.sell(FAMILY, ash + 1, 3, 1, 1, 1, 1, 1), KelpShores.NONE);
        CHECKS.due("a thousand", x.sell(FAMILY, 1000, 3, 1, 1, 1, 1, 1), KelpShores.NONE);
        CHECKS.due("a family without", x.sell(0, 1, 3, 1, 1, 1, 1, 1), KelpShores.NONE);
        CHECKS.due("no lot", x.count(4), 0);
        CHECKS.due("no entry", x.count(5), 0);
        CHECKS.due("ash stays", x.has(FAMILY, 2), ash);
        CHECKS.due("all of it", x.sell(FAMILY, ash, 3, 1, 1, 1, 1, 1), 0);
        CHECKS.due("none is left", x.has(FAMILY, 2), 0);
        CHECKS.due("one more", sellOne(x, 3, 1, 1, 1), KelpShores.NONE);
        InUse.isLeftBy(CHECKS, "too much ash", used -> used.sell(FAMILY, 1000, 3, 1, 2, 3, 4, 5));
    }

    private static void sixtyLots() {
        KelpShores x = withAsh();
        for (int i = 0; i < 60; i++) {
            CHECKS.due("lot", sellOne(x, 3, i, i, i), i);
        }
        int ash = x.has(FAMILY, 2);
        CHECKS.due("there is ash for more", ash > 0, true);
        CHECKS.due("a lot more", sellOne(x, 3, 1, 1, 1), KelpShores.NONE);
        CHECKS.due("lots", x.count(4), 60);
        CHECKS.due("entries", x.count(5), 60);
        CHECKS.due("ash stays", x.has(FAMILY, 2), ash);
        CHECKS.due("the balance stays", x.balance(FAMILY, 9999, 9999), 59 * 60 / 2);
        CHECKS.due("the last lot's strength", x.lot(59, 2), 59);
        CHECKS.noIndex("no lot more", () -> x.lot(60, 0));
        CHECKS.due("an entry still comes", x.enter(FAMILY, 1, 1), 60);
    }

    private static void noEntryForALot() {
        KelpShores x = Scenes.withAsh(FAMILY, 3);
        Scenes.enterUpTo(x, 199);
        CHECKS.due("the last entry", sellOne(x, 3, 7, 7, 7), 0);
        CHECKS.due("its number", x.lot(0, 5), 199);
        int ash = x.has(FAMILY, 2);
        CHECKS.due("no entry more", sellOne(x, 3, 7, 7, 7), KelpShores.NONE);
        CHECKS.due("lots", x.count(4), 1);
        CHECKS.due("entries", x.count(5), 200);
        CHECKS.due("ash stays", x.has(FAMILY, 2), ash);
        CHECKS.due("one taken back", x.undo(7), true);
        CHECKS.due("leaves no place", sellOne(x, 3, 7, 7, 7), KelpShores.NONE);
    }

    private static void theFirstManyCount() {
        KelpShores x = withAsh();
        CHECKS.due("of three, two that are none", x.sell(FAMILY, 1, 3, 50, 40, 60, -1, 100), 0);
        CHECKS.due("the three", x.lot(0, 2), 50);
        CHECKS.due("of four, one that is none", x.sell(FAMILY, 1, 4, 50, 40, 60, 55, Integer.MIN_VALUE), 1);
        CHECKS.due("the four", x.lot(1, 2), 50);
        CHECKS.due("all five", x.sell(FAMILY, 1, 5, 50, 40, 60, 55, 58), 2);
        CHECKS.due("the five", x.lot(2, 2), 55);
        x.sell(FAMILY, 1, 3, 50, 40, 45, 99, 0);
        CHECKS.due("not doubted by what does not count", x.lot(3, 3), 0);
        x.sell(FAMILY, 1, 4, 50, 40, 45, 99, 0);
        CHECKS.due("doubted by the fourth", x.lot(4, 3), 1);
        CHECKS.due("the least of the four", x.lot(4, 2), 40);
        x.sell(FAMILY, 1, 5, 50, 40, 45, 50, 0);
        CHECKS.due("doubted by the fifth", x.lot(5, 3), 1);
        CHECKS.due("the least of the five", x.lot(5, 2), 0);
    }

    private static void amountsThatAreNone() {
        KelpShores x = withAsh();
        int[] wrong = {0, -1, 1001, Integer.MIN_VALUE, Integer.MAX_VALUE};
        for (int n : wrong) {
            CHECKS.noArgument("sell " + n, () -> x.sell(FAMILY, n, 3, 1, 1, 1, 1, 1));
            CHECKS.noArgument("sell " + n + " of no ash", () -> x.sell(0, n, 3, 1, 1, 1, 1, 1));
        }
        CHECKS.due("sell 1", x.sell(FAMILY, 1, 3, 1, 1, 1, 1, 1), 0);
        CHECKS.due("sell 1000", x.sell(FAMILY, 1000, 3, 1, 1, 1, 1, 1), KelpShores.NONE);
    }

    private static void maniesThatAreNone() {
        KelpShores x = withAsh();
        int[] wrong = {2, 6, 1, 0, -1, Integer.MIN_VALUE, Integer.MAX_VALUE};
        for (int many : wrong) {
            CHECKS.noArgument(many + " tests", () -> x.sell(FAMILY, 1, many, 1, 1, 1, 1, 1));
            CHECKS.noArgument(many + " tests of no ash", () -> x.sell(0, 1, many, 1, 1, 1, 1, 1));
        }
        for (int many = 3; many <= 5; many++) {
            CHECKS.due(many + " tests", x.sell(FAMILY, 1, many, 1, 1, 1, 1, 1), many - 3);
        }
    }

    private static void testsThatAreNone() {
        KelpShores x = withAsh();
        int[] wrong = {-1, 100, Integer.MIN_VALUE, Integer.MAX_VALUE};
        int[] right = {0, 99};
        for (int many = 3; many <= 5; many++) {
            for (int place = 0; place < 5; place++) {
                for (int test : right) {
                    aTestIsOne(x, many, place, test);
                }
                for (int test : wrong) {
                    if (place < many) {
                        aTestIsNone(x, many, place, test);
                    } else {
                        aTestIsOne(x, many, place, test);
                    }
                }
            }
        }
        CHECKS.noArgument("a wrong test of no ash", () -> x.sell(0, 1, 3, 1, 1, 100, 1, 1));
    }

    private static void aTestIsNone(KelpShores x, int many, int place, int test) {
        CHECKS.noArgument("test " + place + " of " + many + ": " + test, () -> sellWith(x, many, place, test));
    }

    private static void aTestIsOne(KelpShores x, int many, int place, int test) {
        int lots = x.count(4);
        CHECKS.due("test " + place + " of " + many + ": " + test, sellWith(x, many, place, test), lots);
    }

    private static int sellWith(KelpShores x, int many, int place, int test) {
        int[] tests = {50, 50, 50, 50, 50};
        tests[place] = test;
        return sellOne(x, many, tests);
    }

    /** Each order of the tests is sold by an object of its own, for there are more orders than lots. */
    private static void everyOrder(int many, int strength, int... tests) {
        everyOrder(many, strength, 0, tests.clone());
    }

    private static void everyOrder(int many, int strength, int from, int[] tests) {
        if (from == many) {
            KelpShores x = Scenes.withAsh(FAMILY, 2);
            CHECKS.due("lot of " + java.util.Arrays.toString(tests), sellOne(x, many, tests), 0);
            CHECKS.due("strength by " + java.util.Arrays.toString(tests), x.lot(0, 2), strength);
            return;
        }
        for (int i = from; i < many; i++) {
            swap(tests, from, i);
            everyOrder(many, strength, from + 1, tests);
            swap(tests, from, i);
        }
    }

    private static void swap(int[] row, int a, int b) {
        int kept = row[a];
        row[a] = row[b];
        row[b] = kept;
    }

    private static void theMiddleOne() {
        everyOrder(3, 14, 10, 14, 19);
        everyOrder(5, 16, 10, 12, 16, 17, 29);
        everyOrder(3, 10, 10, 10, 19);
        everyOrder(3, 19, 10, 19, 19);
    }

    private static void theLesserOfBoth() {
        everyOrder(4, 12, 10, 12, 16, 17);
        everyOrder(4, 10, 10, 10, 16, 17);
        everyOrder(4, 16, 10, 16, 16, 17);
    }

    private static void lotIs(KelpShores x, int lot, int... due) {
        for (int what = 0; what < due.length; what++) {
            CHECKS.due("lot(" + lot + ", " + what + ")", x.lot(lot, what), due[what]);
        }
    }

    private static void doubted() {
        int[][] tests = {{40, 60, 50}, {40, 61, 50}, {0, 20, 20}, {0, 21, 20}, {79, 99, 99}, {78, 99, 99}};
        KelpShores x = withAsh();
        for (int i = 0; i < tests.length; i++) {
            int[] t = tests[i];
            sellOne(x, 3, t);
            CHECKS.due("three tests " + i, x.lot(3 * i, 3), i % 2);
            sellOne(x, 4, t[0], t[2], t[1], t[2]);
            CHECKS.due("four tests " + i, x.lot(3 * i + 1, 3), i % 2);
            sellOne(x, 5, t[2], t[2], t[2], t[1], t[0]);
            CHECKS.due("five tests " + i, x.lot(3 * i + 2, 3), i % 2);
        }
    }

    private static void theLeastOfADoubted() {
        everyOrder(3, 10, 10, 20, 31);
        everyOrder(4, 10, 10, 20, 25, 31);
        everyOrder(5, 10, 10, 20, 25, 30, 31);
        everyOrder(3, 20, 10, 20, 30);
        everyOrder(4, 0, 0, 99, 99, 99);
    }

    private static void price() {
        KelpShores x = withAsh();
        CHECKS.due("three tests", x.sell(FAMILY, 2, 3, 50, 40, 60, -1, 100), 0);
        CHECKS.due("price", x.lot(0, 4), 100);
        CHECKS.due("doubted", x.sell(FAMILY, 4, 5, 50, 40, 61, 55, 45), 1);
        CHECKS.due("price of the least", x.lot(1, 4), 160);
        CHECKS.due("all of nothing", x.sell(FAMILY, 9, 3, 0, 0, 0, 0, 0), 2);
        CHECKS.due("no price", x.lot(2, 4), 0);
        CHECKS.due("all of the most", x.sell(FAMILY, 7, 5, 99, 99, 99, 99, 99), 3);
        CHECKS.due("the greatest", x.lot(3, 4), 693);
        CHECKS.due("their sum", x.balance(FAMILY, 9999, 9999), 953);
    }

    /** Six shores and two hundred days of gathering: the most that the calls of one object can do. */
    private static void theMostAsh() {
        KelpShores x = Scenes.withShores(6);
        StringBuilder text = new StringBuilder();
        for (int shore = 0; shore < 6; shore++) {
            for (int rock = 0; rock < 4; rock++) {
                x.rock(shore, 0, 1000);
            }
            text.append(shore == 0 ? "" : ";").append("shore").append(shore).append("family6from0to99share0");
        }
        x.hands(FAMILY, 20);
        Scenes.tell(x, text.toString());
        Scenes.gatherFor(x, FAMILY, 6, 203);
        for (int i = 0; i < 5; i++) {
            CHECKS.due("lit", x.light(x.pit(FAMILY), 1000), true);
        }
        Scenes.days(x, 3);
        CHECKS.due("ash", x.has(FAMILY, 2), 1000);
        CHECKS.due("sell all", x.sell(FAMILY, 1000, 3, 99, 99, 99, 0, 0), 0);
        lotIs(x, 0, FAMILY, 1000, 99, 0, 99000, 0);
        CHECKS.due("its entry", x.balance(FAMILY, 206, 206), 99000);
        CHECKS.due("no ash is left", x.has(FAMILY, 2), 0);
    }

    private static void entryOfALot() {
        KelpShores x = withAsh();
        int today = x.count(0);
        x.enter(0, 1, 1);
        sellOne(x, 3, 50, 50, 50);
        CHECKS.due("its number", x.lot(0, 5), 1);
        CHECKS.due("entries", x.count(5), 2);
        CHECKS.due("for today", x.balance(FAMILY, today, today), 50);
        CHECKS.due("not for the day ahead", x.balance(FAMILY, today - 1, today), 0);
        CHECKS.due("not known on the day ahead", x.balance(FAMILY, today, today - 1), 0);
        CHECKS.due("not another family's", x.balance(1, today, today), 0);
        x.day(0, 0, 0, 0);
        CHECKS.due("taken back", x.undo(1), true);
        CHECKS.due("not known any more", x.balance(FAMILY, today, today + 1), 0);
        CHECKS.due("known then", x.balance(FAMILY, today, today), 50);
        CHECKS.due("the lot stays", x.lot(0, 4), 50);
    }

    private static void ofALot() {
        KelpShores x = withAsh();
        x.enter(0, 3, 3);
        x.sell(FAMILY, 7, 3, 30, 20, 10, 0, 0);
        x.enter(0, 3, 3);
        x.sell(FAMILY, 3, 4, 31, 20, 10, 20, 0);
        x.sell(FAMILY, 5, 5, 31, 20, 12, 20, 19);
        lotIs(x, 0, FAMILY, 7, 20, 0, 140, 1);
        lotIs(x, 1, FAMILY, 3, 10, 1, 30, 3);
        lotIs(x, 2, FAMILY, 5, 20, 0, 100, 4);
        KelpShores first = Scenes.withAsh(0, 2);
        first.sell(0, 2, 3, 9, 9, 9, 0, 0);
        lotIs(first, 0, 0, 2, 9, 0, 18, 0);
    }

    private static void anotherWhat() {
        KelpShores x = withAsh();
        sellOne(x, 3, 1, 2, 3);
        int[] wrong = {-1, 6, Integer.MIN_VALUE, Integer.MAX_VALUE};
        for (int what : wrong) {
            CHECKS.noElement("what " + what, () -> x.lot(0, what));
        }
        for (int what = 0; what <= 5; what++) {
            int each = what;
            CHECKS.noThrow("what " + what, () -> x.lot(0, each));
        }
    }

    private static void entryNumbers() {
        KelpShores x = new KelpShores();
        for (int i = 0; i < 10; i++) {
            CHECKS.due("entry", x.enter(i % 8, 10 - 3 * i, 9 * i), i);
            CHECKS.due("how many", x.count(5), i + 1);
            x.day(0, 0, 0, 0);
        }
        CHECKS.due("told on day 9", x.balance(1, 9999, 8), 7);
        CHECKS.due("told on day 9, known then", x.balance(1, 9999, 9), 7 - 17);
    }

    private static void twoHundredEntries() {
        KelpShores x = new KelpShores();
        for (int i = 0; i < 200; i++) {
            CHECKS.due("entry", x.enter(0, 1, 0), i);
        }
        CHECKS.due("an entry more", x.enter(0, 1, 0), KelpShores.NONE);
        CHECKS.due("and again", x.enter(7, 1, 0), KelpShores.NONE);
        CHECKS.due("entries", x.count(5), 200);
        CHECKS.due("balance", x.balance(0, 0, 0), 200);
        CHECKS.due("no balance of another", x.balance(7, 0, 0), 0);
        CHECKS.noIndex("no entry 200", () -> x.undo(200));
        CHECKS.due("the last one taken back", x.undo(199), true);
        CHECKS.due("leaves no place", x.enter(0, 1, 0), KelpShores.NONE);
        CHECKS.due("balance without it", x.balance(0, 0, 0), 199);
        InUse.isLeftBy(CHECKS, "an entry more", used -> Scenes.enterUpTo(used, 200), used -> used.enter(FAMILY, 5, 0));
    }

    private static void moneyThatIsNone() {
        KelpShores x = new KelpShores();
        int[] wrong = {100001, -100001, Integer.MAX_VALUE, Integer.MIN_VALUE};
        for (int money : wrong) {
            CHECKS.noArgument("money " + money, () -> x.enter(0, money, 0));
        }
        CHECKS.due("none came", x.count(5), 0);
        int[] right = {100000, -100000, 0, 1, -1};
        for (int i = 0; i < right.length; i++) {
            CHECKS.due("money " + right[i], x.enter(i, right[i], 0), i);
            CHECKS.due("balance of " + right[i], x.balance(i, 0, 0), right[i]);
        }
    }

    private static void daysThatAreNone() {
        KelpShores x = new KelpShores();
        int[] wrong = {-1, 10000, Integer.MAX_VALUE, Integer.MIN_VALUE};
        for (int day : wrong) {
            CHECKS.noArgument("day " + day, () -> x.enter(0, 0, day));
        }
        CHECKS.due("none came", x.count(5), 0);
        CHECKS.due("day 0", x.enter(0, 10, 0), 0);
        CHECKS.due("day 9999", x.enter(0, 100, 9999), 1);
        CHECKS.due("up to day 9998", x.balance(0, 9998, 0), 10);
        CHECKS.due("up to day 9999", x.balance(0, 9999, 0), 110);
    }

    private static void takenBack() {
        KelpShores x = new KelpShores();
        x.enter(0, 5, 0);
        x.enter(0, 6, 0);
        CHECKS.due("on its day", x.undo(0), true);
        CHECKS.due("again", x.undo(0), false);
        x.day(0, 0, 0, 0);
        CHECKS.due("again on another day", x.undo(0), false);
        CHECKS.due("another one", x.undo(1), true);
        CHECKS.due("again", x.undo(1), false);
        CHECKS.due("they keep their numbers", x.enter(0, 7, 0), 2);
        CHECKS.noIndex("one that is not", () -> x.undo(3));
        CHECKS.due("the last one", x.undo(2), true);
        InUse.isLeftBy(CHECKS, "what is taken back already", used -> used.undo(2));
        CHECKS.due("that one is", InUse.made().undo(2), false);
    }

    private static KelpShores withEntries() {
        KelpShores x = new KelpShores();
        Scenes.days(x, 10);
        x.enter(0, 1, 5);
        x.enter(0, 10, 10);
        x.enter(1, 5000, 5);
        Scenes.days(x, 10);
        x.enter(0, 100, 5);
        x.enter(0, -1000, 30);
        return x;
    }

    private static void balances(KelpShores x, int[][] due) {
        for (int[] each : due) {
            CHECKS.due("by " + each[0] + " known on " + each[1], x.balance(0, each[0], each[1]), each[2]);
        }
    }

    private static void forDaysUpToThat() {
        balances(withEntries(), new int[][] {{4, 20, 0}, {5, 20, 101}, {6, 20, 101}, {9, 20, 101}, {10, 20, 111},
            {29, 20, 111}, {30, 20, -889}, {31, 20, -889}, {9999, 20, -889}, {10000, 20, -889}, {0, 20, 0},
            {-1, 20, 0}, {Integer.MAX_VALUE, 20, -889}, {Integer.MIN_VALUE, 20, 0}});
    }

    private static void knownThen() {
        balances(withEntries(), new int[][] {{30, 9, 0}, {30, 10, 11}, {30, 11, 11}, {30, 19, 11}, {30, 20, -889},
            {30, 21, -889}, {30, 9999, -889}, {30, 0, 0}, {30, -1, 0}, {5, 19, 1}, {5, 20, 101},
            {30, Integer.MAX_VALUE, -889}, {30, Integer.MIN_VALUE, 0}});
    }

    private static void ofAFamily() {
        KelpShores x = new KelpShores();
        for (int family = 0; family < 8; family++) {
            x.enter(family, 1 << family, 0);
            x.enter(family, -1000, 1);
        }
        for (int family = 0; family < 8; family++) {
            CHECKS.due("family " + family + " by day 0", x.balance(family, 0, 0), 1 << family);
            CHECKS.due("family " + family + " by day 1", x.balance(family, 1, 0), (1 << family) - 1000);
        }
    }

    private static void notKnownFromThatDayOn() {
        KelpShores x = new KelpShores();
        Scenes.days(x, 3);
        x.enter(0, 7, 1);
        x.enter(0, 70, 1);
        Scenes.days(x, 2);
        x.undo(0);
        Scenes.days(x, 2);
        CHECKS.due("taken back on day 5 alone", x.undo(0), false);
        balances(x, new int[][] {{1, 2, 0}, {1, 3, 77}, {1, 4, 77}, {1, 5, 70}, {1, 6, 70}, {1, 7, 70}, {1, 99, 70}});
        x.undo(x.enter(0, 700, 1));
        balances(x, new int[][] {{1, 6, 70}, {1, 7, 70}, {1, 8, 70}});
        KelpShores first = new KelpShores();
        first.enter(0, 5, 0);
        first.undo(0);
        balances(first, new int[][] {{0, 0, 0}, {0, 1, 0}});
    }
}
