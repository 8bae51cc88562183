/** Promise 10: day, with what a day does to rocks, weed and families (pits have a test of their own). */
final class DaysTest {
    private static final Checks CHECKS = new Checks();

    public static void main(String[] args) {
        weatherAtItsBounds();
        growthOnFirstDays();
        growthIsAheadOfTheStorm();
        stormsByDepth();
        rainSpoils();
        windDries();
        workIsNewEachDay();
        theTideStays();
        theLastDay();
        CHECKS.close();
    }

    private static KelpShores withWeed(int room) {
        KelpShores x = Checks.withShores(1);
        x.rock(0, 9, room);
        x.hands(0, 20);
        Checks.tell(x, "shore 0 family 0 from 0 to 99 share 0; rest 0");
        return x;
    }

    private static void weatherAtItsBounds() {
        KelpShores x = new KelpShores();
        int[] wrong = {-1, 10, Integer.MIN_VALUE, Integer.MAX_VALUE};
        for (int n : wrong) {
            CHECKS.noArgument("tide " + n, () -> x.day(n, 0, 0, 0));
            CHECKS.noArgument("wind " + n, () -> x.day(0, n, 0, 0));
            CHECKS.noArgument("rain " + n, () -> x.day(0, 0, n, 0));
            CHECKS.noArgument("storm " + n, () -> x.day(0, 0, 0, n));
        }
        CHECKS.due("no day has come", x.count(0), 0);
        CHECKS.due("the first day", x.day(9, 9, 9, 9), 1);
        CHECKS.due("the second day", x.day(0, 0, 0, 0), 2);
        CHECKS.due("today", x.count(0), 2);
    }

    private static void growthOnFirstDays() {
        KelpShores x = withWeed(101);
        x.cut(0, 0, 0, 100);
        Checks.days(x, 99);
        CHECKS.due("nothing grows in the year", x.look(0, 0, 0), 1);
        x.day(0, 0, 0, 0);
        CHECKS.due("a quarter of 100", x.look(0, 0, 0), 26);
        x.day(0, 0, 0, 0);
        CHECKS.due("on the first day alone", x.look(0, 0, 0), 26);
        Checks.days(x, 99);
        CHECKS.due("a quarter of 75, rounded up", x.look(0, 0, 0), 45);
        CHECKS.due("all that grew", x.look(0, 0, 2), 145);
        Checks.days(x, 100);
        CHECKS.due("a quarter of 56", x.look(0, 0, 0), 59);
        for (int missing = 1; missing <= 8; missing++) {
            KelpShores some = withWeed(50);
            some.cut(0, 0, 0, missing);
            Checks.days(some, 100);
            CHECKS.due("a quarter of " + missing, some.look(0, 0, 0), 50 - missing + (missing > 4 ? 2 : 1));
        }
        KelpShores full = withWeed(7);
        Checks.days(full, 100);
        CHECKS.due("a full rock does not grow", full.look(0, 0, 2), 7);
    }

    private static void growthIsAheadOfTheStorm() {
        KelpShores x = withWeed(1000);
        x.cut(0, 0, 0, 100);
        Checks.days(x, 99);
        x.day(0, 0, 0, 9);
        CHECKS.due("9 hundredths of 925", x.cast(0), 83);
        CHECKS.due("what is left", x.look(0, 0, 0), 842);
    }

    private static void stormsByDepth() {
        KelpShores x = Checks.withShores(2);
        x.rock(0, 0, 1000);
        x.rock(0, 4, 99);
        x.rock(0, 5, 1000);
        x.rock(1, 4, 50);
        x.day(0, 0, 0, 4);
        CHECKS.due("depth 0", x.look(0, 0, 4), 40);
        CHECKS.due("depth 4, rounded down", x.look(0, 1, 4), 3);
        CHECKS.due("depth 5", x.look(0, 2, 4), 0);
        CHECKS.due("the weed of depth 5", x.look(0, 2, 0), 1000);
        CHECKS.due("cast", x.cast(0), 43);
        CHECKS.due("cast of the other", x.cast(1), 2);
        x.day(0, 0, 0, 0);
        CHECKS.due("no storm", x.cast(0), 43);
        x.day(0, 0, 0, 9);
        CHECKS.due("what storms took of depth 0", x.look(0, 0, 4), 40 + 86);
        CHECKS.due("what storms took of depth 5", x.look(0, 2, 4), 90);
        CHECKS.due("cast adds up", x.cast(0), 43 + 86 + 8 + 90);
    }

    private static void rainSpoils() {
        KelpShores x = withWeed(1000);
        x.cut(0, 0, 0, 100);
        x.day(0, 9, 0, 0);
        CHECKS.due("dry", x.has(0, 1), 22);
        x.day(0, 9, 4, 0);
        CHECKS.due("rain of 4 spoils nothing", x.has(0, 1), 22);
        x.day(0, 9, 5, 0);
        CHECKS.due("a tenth, rounded up", x.has(0, 1), 19);
        CHECKS.due("spoilt", x.has(0, 4), 3);
        x.day(0, 0, 9, 0);
        CHECKS.due("a tenth of 19", x.has(0, 1), 17);
        CHECKS.due("spoilt in all", x.has(0, 4), 5);
        CHECKS.due("not lost", x.has(0, 5), 0);
        CHECKS.due("wet stays", x.has(0, 0), 12);
        CHECKS.due("another family", x.has(1, 4), 0);
        for (int cut = 1; cut <= 100; cut++) {
            KelpShores some = withWeed(1000);
            some.cut(0, 0, 0, cut);
            some.day(0, 9, 0, 0);
            int had = some.has(0, 1);
            int tenth = had == 0 ? 0 : had <= 10 ? 1 : had <= 20 ? 2 : 3;
            some.day(0, 0, 5, 0);
            CHECKS.due("a tenth of " + had, some.has(0, 4), tenth);
            CHECKS.due("what is left of " + had, some.has(0, 1), had - tenth);
        }
    }

    private static void windDries() {
        KelpShores x = withWeed(1000);
        x.cut(0, 0, 0, 57);
        x.day(0, 0, 0, 0);
        CHECKS.due("no wind", x.has(0, 0), 57);
        x.day(0, 9, 1, 0);
        CHECKS.due("wind with rain", x.has(0, 0), 57);
        x.day(0, 3, 0, 0);
        CHECKS.due("17 dry, four fours of them", x.has(0, 0), 41);
        CHECKS.due("four are dry", x.has(0, 1), 4);
        x.day(0, 1, 0, 0);
        CHECKS.due("4 dry", x.has(0, 0), 37);
        x.day(0, 1, 0, 0);
        CHECKS.due("3 are no four", x.has(0, 0), 37);
        CHECKS.due("five are dry", x.has(0, 1), 5);
    }

    private static void workIsNewEachDay() {
        KelpShores x = withWeed(1000);
        x.cut(0, 0, 0, 100);
        CHECKS.due("no work is left", x.has(0, 3), 0);
        x.day(0, 0, 0, 0);
        CHECKS.due("all is left", x.has(0, 3), 100);
    }

    private static void theTideStays() {
        KelpShores x = Checks.withShores(1);
        x.rock(0, 0, 100);
        Checks.tell(x, "shore 0 family 0 from 0 to 99 share 0");
        x.day(1, 0, 0, 0);
        CHECKS.due("the tide is above", x.cut(0, 0, 0, 1), 2);
        CHECKS.noArgument("a wrong day", () -> x.day(0, 0, 0, 10));
        CHECKS.due("the tide stays", x.cut(0, 0, 0, 1), 2);
        x.day(0, 0, 0, 0);
        CHECKS.due("the next tide", x.cut(0, 0, 0, 1), 0);
    }

    /** More calls than the document counts: the limit is kept there too. */
    private static void theLastDay() {
        KelpShores x = new KelpShores();
        Checks.days(x, 9999);
        CHECKS.due("today", x.count(0), 9999);
        CHECKS.noMore("a day behind the last", () -> x.day(0, 0, 0, 0));
        CHECKS.noArgument("a wrong day behind the last", () -> x.day(10, 0, 0, 0));
        CHECKS.due("still today", x.count(0), 9999);
    }
}
