import java.util.function.BiConsumer;
import java.util.function.Consumer;

/** The two sentences on exceptions behind "Terms", for every call that throws. */
final class ExceptionsTest {
    private static final Checks CHECKS = new Checks();

    private static final int FAMILIES = 8;

    public static void main(String[] args) {
        CHECKS.sentence("Of several exceptions the one told first is thrown", ExceptionsTest::theOneToldFirst);
        CHECKS.sentence("An exception is ahead of an answer", ExceptionsTest::aheadOfAnAnswer);
        CHECKS.sentence("a call that throws changes nothing but the TAPE", ExceptionsTest::changesNothing);
        CHECKS.sentence("where it is used up (by rights() alone)", ExceptionsTest::theTapeIsUsedUp);
        CHECKS.sentence("IndexOutOfBoundsException: there is no such SHORE", ExceptionsTest::noSuchShore);
        CHECKS.sentence("IndexOutOfBoundsException: there is no such ROCK", ExceptionsTest::noSuchRock);
        CHECKS.sentence("IndexOutOfBoundsException: there is no such FAMILY (0 to 7)", ExceptionsTest::noSuchFamily);
        CHECKS.sentence("IndexOutOfBoundsException: there is no such PIT", ExceptionsTest::noSuchPit);
        CHECKS.sentence("IndexOutOfBoundsException: there is no such LOT", ExceptionsTest::noSuchLot);
        CHECKS.sentence("IndexOutOfBoundsException: there is no such ENTRY", ExceptionsTest::noSuchEntry);
        CHECKS.sentence("Nothing else is thrown, whatever the numbers are", ExceptionsTest::farNumbers);
        CHECKS.close();
    }

    private static void theOneToldFirst() {
        KelpShores x = InUse.made();
        x.rock(0, 0, 1);
        while (x.count(2) < 12) {
            x.pit(0);
        }
        CHECKS.noIndex("rock: shore and depth", () -> x.rock(InUse.SHORES, 10, 1));
        CHECKS.noIndex("rock: shore and room", () -> x.rock(-1, 0, 0));
        CHECKS.noArgument("rock: depth, and there are 4", () -> x.rock(0, 10, 1));
        CHECKS.noArgument("rock: room, and there are 4", () -> x.rock(0, 0, 1001));
        CHECKS.noMore("rock: there are 4", () -> x.rock(0, 0, 1));
        CHECKS.noIndex("hands: family and n", () -> x.hands(8, 21));
        CHECKS.noIndex("cut: shore and n", () -> x.cut(InUse.SHORES, 0, 0, 0));
        CHECKS.noIndex("cut: rock and n", () -> x.cut(0, 4, 0, 0));
        CHECKS.noIndex("cut: family and n", () -> x.cut(0, 0, 8, 1001));
        CHECKS.noIndex("gather: shore and n", () -> x.gather(InUse.SHORES, 0, 0));
        CHECKS.noIndex("gather: family and n", () -> x.gather(0, -1, 0));
        CHECKS.noIndex("look: shore and what", () -> x.look(InUse.SHORES, 0, 5));
        CHECKS.noIndex("look: rock and what", () -> x.look(0, 4, 5));
        CHECKS.noIndex("has: family and what", () -> x.has(8, 7));
        CHECKS.noIndex("pit: family, and there are 12", () -> x.pit(8));
        CHECKS.noMore("pit: there are 12", () -> x.pit(7));
        CHECKS.noIndex("light: pit and load", () -> x.light(12, 19));
        CHECKS.noIndex("sell: family and n", () -> x.sell(8, 0, 3, 1, 1, 1, 1, 1));
        CHECKS.noIndex("sell: family and many", () -> x.sell(8, 1, 2, 1, 1, 1, 1, 1));
        CHECKS.noIndex("sell: family and test", () -> x.sell(-1, 1, 3, 100, 1, 1, 1, 1));
        CHECKS.noIndex("lot: lot and what", () -> x.lot(InUse.LOTS, 6));
        CHECKS.noIndex("enter: family and money", () -> x.enter(8, 100001, 0));
        CHECKS.noIndex("enter: family and day", () -> x.enter(-1, 0, 10000));
    }

    private static void aheadOfAnAnswer() {
        KelpShores x = InUse.made();
        CHECKS.due("against cutting", x.cut(0, 0, 0, 1), 1);
        CHECKS.noArgument("against cutting, n is none", () -> x.cut(0, 0, 0, 0));
        CHECKS.due("against gathering", x.gather(0, 0, 1), 1);
        CHECKS.noArgument("against gathering, n is none", () -> x.gather(0, 0, 1001));
        CHECKS.due("a pit that burns", x.light(0, 20), false);
        CHECKS.noArgument("a pit that burns, the load is none", () -> x.light(0, 19));
        CHECKS.due("no ash", x.sell(0, 1, 3, 1, 1, 1, 1, 1), KelpShores.NONE);
        CHECKS.noArgument("no ash, a test is none", () -> x.sell(0, 1, 3, 1, 1, -1, 1, 1));
        Scenes.enterUpTo(x, 200);
        CHECKS.due("no entry more", x.enter(0, 1, 1), KelpShores.NONE);
        CHECKS.noArgument("no entry more, the day is none", () -> x.enter(0, 1, -1));
        CHECKS.noArgument("no entry more, money is none", () -> x.enter(0, 100001, 1));
        CHECKS.noArgument("no entry more, n is none", () -> x.sell(6, 0, 3, 1, 1, 1, 1, 1));
        CHECKS.noIndex("no entry more, no such family", () -> x.enter(8, 1, 1));
    }

    private static void throwing(String what, Consumer<KelpShores> call) {
        KelpShores x = InUse.made();
        CHECKS.due(what + " throws", Checks.thrownBy(() -> call.accept(x)) != null, true);
        InUse.isLeftBy(CHECKS, what, call);
    }

    private static void changesNothing() {
        throwing("rock of no shore", x -> x.rock(InUse.SHORES, 0, 1));
        throwing("rock of no depth", x -> x.rock(0, 10, 1));
        throwing("rock of no room", x -> x.rock(0, 0, 0));
        throwing("hands of no family", x -> x.hands(8, 1));
        throwing("no hands", x -> x.hands(6, 21));
        throwing("fewer than no hands", x -> x.hands(6, -1));
        throwing("may on no shore", x -> x.may(2, 0, 0));
        throwing("may of no family", x -> x.may(0, 8, 0));
        throwing("no tide", x -> x.day(10, 1, 1, 1));
        throwing("no wind", x -> x.day(1, -1, 1, 1));
        throwing("no rain", x -> x.day(1, 1, 10, 1));
        throwing("no storm", x -> x.day(1, 1, 1, -1));
        throwing("cut on no shore", x -> x.cut(2, 0, 6, 1));
        throwing("cut no rock", x -> x.cut(0, 3, 6, 1));
        throwing("cut by no family", x -> x.cut(0, 1, 8, 1));
        throwing("cut none", x -> x.cut(0, 1, 6, 0));
        throwing("cut fewer than none", x -> x.cut(0, 1, 6, -5));
        throwing("gather on no shore", x -> x.gather(2, 6, 1));
        throwing("gather by no family", x -> x.gather(0, 8, 1));
        throwing("gather none", x -> x.gather(0, 6, 0));
        throwing("gather fewer than none", x -> x.gather(0, 6, -5));
        throwing("look at no rock", x -> x.look(1, 1, 0));
        throwing("look at another what", x -> x.look(0, 0, 5));
        throwing("cast of no shore", x -> x.cast(-1));
        throwing("has of no family", x -> x.has(8, 0));
        throwing("has another what", x -> x.has(0, 7));
        throwing("owes for no shore", x -> x.owes(0, 2, 0));
        throwing("pit of no family", x -> x.pit(8));
        throwing("light no pit", x -> x.light(InUse.PITS, 20));
        throwing("light no load", x -> x.light(2, 19));
        throwing("light too much", x -> x.light(2, 1001));
        throwing("burns of no pit", x -> x.burns(-1));
        throwing("sell of no family", x -> x.sell(8, 1, 3, 1, 1, 1, 1, 1));
        throwing("sell none", x -> x.sell(6, 0, 3, 1, 1, 1, 1, 1));
        throwing("sell by two tests", x -> x.sell(6, 1, 2, 1, 1, 1, 1, 1));
        throwing("sell by no test", x -> x.sell(6, 1, 5, 1, 1, 1, 1, 100));
        throwing("lot that is none", x -> x.lot(InUse.LOTS, 0));
        throwing("lot's another what", x -> x.lot(0, 6));
        throwing("enter for no family", x -> x.enter(8, 1, 1));
        throwing("enter no money", x -> x.enter(6, 100001, 1));
        throwing("enter for no day", x -> x.enter(6, 1, -1));
        throwing("undo no entry", x -> x.undo(InUse.ENTRIES));
        throwing("balance of no family", x -> x.balance(8, 1, 1));
    }

    private static void theTapeIsUsedUp() {
        KelpShores x = new KelpShores();
        Scenes.feedText(x, "rest 3; rest x");
        CHECKS.noArgument("day that is none", () -> x.day(10, 0, 0, 0));
        CHECKS.noIndex("shore that is none", () -> x.cast(0));
        CHECKS.due("the tape has 14", x.end(15), false);
        CHECKS.due("all of them", x.end(14), true);
        CHECKS.noArgument("rights", x::rights);
        CHECKS.due("the tape has none", x.end(1), false);
        CHECKS.due("rest stays", x.count(7), 2);
    }

    /** None of the numbers outside is there; each of those inside is, whatever else the call answers. */
    private static void index(String what, int there, BiConsumer<KelpShores, Integer> call) {
        int[] outside = {-1, there, there + 1, there + 100, Integer.MIN_VALUE, Integer.MAX_VALUE};
        for (int number : outside) {
            KelpShores x = InUse.made();
            CHECKS.noIndex(what + " " + number, () -> call.accept(x, number));
        }
        for (int number = 0; number < there; number++) {
            KelpShores x = InUse.made();
            int each = number;
            CHECKS.noThrow(what + " " + number, () -> call.accept(x, each));
        }
    }

    private static void noSuchShore() {
        index("rock of shore", InUse.SHORES, (x, n) -> x.rock(n, 0, 1));
        index("may on shore", InUse.SHORES, (x, n) -> x.may(n, 0, 0));
        index("cut on shore", InUse.SHORES, (x, n) -> x.cut(n, 0, 0, 1));
        index("gather on shore", InUse.SHORES, (x, n) -> x.gather(n, 0, 1));
        index("look on shore", InUse.SHORES, (x, n) -> x.look(n, 0, 0));
        index("cast of shore", InUse.SHORES, (x, n) -> x.cast(n));
        index("owes for shore", InUse.SHORES, (x, n) -> x.owes(0, n, 0));
        index("owes for shore, another year", InUse.SHORES, (x, n) -> x.owes(0, n, 100));
    }

    private static void noSuchRock() {
        for (int shore = 0; shore < InUse.SHORES; shore++) {
            int each = shore;
            index("cut on shore " + shore + " rock", InUse.ROCKS[shore], (x, n) -> x.cut(each, n, 0, 1));
            index("look on shore " + shore + " at rock", InUse.ROCKS[shore], (x, n) -> x.look(each, n, 0));
        }
    }

    private static void noSuchFamily() {
        index("hands of family", FAMILIES, (x, n) -> x.hands(n, 1));
        index("may of family", FAMILIES, (x, n) -> x.may(0, n, 0));
        index("cut by family", FAMILIES, (x, n) -> x.cut(0, 0, n, 1));
        index("gather by family", FAMILIES, (x, n) -> x.gather(0, n, 1));
        index("has of family", FAMILIES, (x, n) -> x.has(n, 0));
        index("owes of family", FAMILIES, (x, n) -> x.owes(n, 0, 0));
        index("pit of family", FAMILIES, (x, n) -> x.pit(n));
        index("sell of family", FAMILIES, (x, n) -> x.sell(n, 1, 3, 1, 1, 1, 1, 1));
        index("enter for family", FAMILIES, (x, n) -> x.enter(n, 1, 1));
        index("balance of family", FAMILIES, (x, n) -> x.balance(n, 1, 1));
    }

    private static void noSuchPit() {
        index("light pit", InUse.PITS, (x, n) -> x.light(n, 20));
        index("burns of pit", InUse.PITS, (x, n) -> x.burns(n));
    }

    private static void noSuchLot() {
        index("lot", InUse.LOTS, (x, n) -> x.lot(n, 0));
    }

    private static void noSuchEntry() {
        index("undo", InUse.ENTRIES, (x, n) -> x.undo(n));
    }

    private static void farNumbers() {
        for (int n : Scenes.FAR) {
            KelpShores x = InUse.made();
            CHECKS.noThrow("feed", () -> x.feed(n, n, n, n, n));
            CHECKS.noThrow("end", () -> x.end(n));
            CHECKS.noThrow("may", () -> x.may(0, 0, n));
            CHECKS.noThrow("owes", () -> x.owes(0, 0, n));
            CHECKS.noThrow("balance by", () -> x.balance(0, n, 0));
            CHECKS.noThrow("balance known", () -> x.balance(0, 0, n));
            CHECKS.noThrow("count", () -> x.count(n));
            CHECKS.noThrow("tests that do not count", () -> x.sell(6, 1, 3, 1, 1, 1, n, n));
            CHECKS.noArgument("rock", () -> x.rock(0, n, n));
            CHECKS.noArgument("hands", () -> x.hands(0, n));
            CHECKS.noArgument("day", () -> x.day(n, n, n, n));
            CHECKS.noArgument("cut", () -> x.cut(0, 0, 0, n));
            CHECKS.noArgument("gather", () -> x.gather(0, 0, n));
            CHECKS.noArgument("light", () -> x.light(0, n));
            CHECKS.noArgument("sell", () -> x.sell(6, n, n, n, n, n, n, n));
            CHECKS.noArgument("enter", () -> x.enter(0, n, n));
            CHECKS.noElement("look", () -> x.look(0, 0, n));
            CHECKS.noElement("has", () -> x.has(0, n));
            CHECKS.noElement("lot", () -> x.lot(0, n));
        }
    }
}
