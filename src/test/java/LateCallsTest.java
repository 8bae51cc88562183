/**
 * Bounds that lie beyond an object's 512 calls. The document leaves free what is answered there; these
 * sentences of it can be seen nowhere else, and the program keeps them all the same.
 */
final class LateCallsTest {
    private static final Checks CHECKS = new Checks();

    public static void main(String[] args) {
        CHECKS.sentence("10: UnsupportedOperationException: TODAY is 9999", LateCallsTest::theLastDay);
        CHECKS.sentence("10: a number is none ahead of TODAY is 9999", LateCallsTest::wrongOnTheLastDay);
        CHECKS.sentence("16: (0 to 99)", LateCallsTest::owedInTheLastYear);
        CHECKS.sentence("==== 2: rest NUMBER (0 to 20)", LateCallsTest::restOfTwentyYears);
        CHECKS.close();
    }

    private static void theLastDay() {
        KelpShores x = Scenes.withDry(0, 20);
        Scenes.days(x, 9997);
        CHECKS.due("the last day but one", x.count(0), 9998);
        CHECKS.due("the last day", x.day(0, 0, 0, 0), 9999);
        CHECKS.noMore("a day behind the last", () -> x.day(9, 9, 9, 9));
        CHECKS.due("TODAY stays", x.count(0), 9999);
        CHECKS.due("dry stays", x.has(0, 1), 20);
        CHECKS.due("the tide stays", x.cut(0, 1, 0, 1), 0);
        CHECKS.due("an entry for today", x.enter(0, 5, 9999), 0);
        CHECKS.due("balance", x.balance(0, 9999, 9999), 5);
        CHECKS.due("not known ahead", x.balance(0, 9999, 9998), 0);
    }

    private static void wrongOnTheLastDay() {
        KelpShores x = new KelpShores();
        Scenes.days(x, 9999);
        CHECKS.noArgument("a wrong tide", () -> x.day(10, 0, 0, 0));
        CHECKS.noArgument("a wrong storm", () -> x.day(0, 0, 0, -1));
        CHECKS.noMore("a day", () -> x.day(0, 0, 0, 0));
    }

    private static void owedInTheLastYear() {
        KelpShores x = Scenes.withShores(6);
        x.rock(5, 9, 1000);
        Scenes.tell(x, Scenes.allYear(5, 7, 50) + "; rest 0");
        Scenes.days(x, 9850);
        CHECKS.due("cut in year 98", x.cut(5, 0, 7, 10), 0);
        Scenes.days(x, 149);
        CHECKS.due("cut on the last day", x.cut(5, 0, 7, 20), 0);
        CHECKS.due("owed in year 98", x.owes(7, 5, 98), 5);
        CHECKS.due("owed in year 99", x.owes(7, 5, 99), 10);
        CHECKS.due("year 100", x.owes(7, 5, 100), 0);
        CHECKS.due("the year of the latest cutting", x.look(5, 0, 1), 99);
    }

    private static void restOfTwentyYears() {
        KelpShores x = Scenes.withWeed(0, 9);
        Scenes.tell(x, Scenes.allYear(0, 0, 0) + "; rest 20");
        CHECKS.due("cut in year 0", x.cut(0, 0, 0, 1), 0);
        Scenes.days(x, 2099);
        CHECKS.due("on the last day of year 20", x.cut(0, 0, 0, 1), 3);
        x.day(0, 0, 0, 0);
        CHECKS.due("on the first day of year 21", x.cut(0, 0, 0, 1), 0);
    }
}
