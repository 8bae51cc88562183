/** Promises 11, 12 and 16: cut, gather, owes. */
final class CuttingTest {
    private static final Checks CHECKS = new Checks();

    public static void main(String[] args) {
        whatIsAgainstInItsOrder();
        rightsOfTheDayOfTheYear();
        restOfYears();
        twoCuttingsOfADay();
        gathering();
        workForBoth();
        wrongInputs();
        whatIsOwed();
        owedInTheLastYear();
        CHECKS.close();
    }

    private static void whatIsAgainstInItsOrder() {
        KelpShores x = Checks.withShores(1);
        x.rock(0, 3, 10);
        x.hands(1, 0);
        x.day(4, 0, 0, 0);
        CHECKS.due("no right", x.cut(0, 0, 1, 11), 1);
        Checks.tell(x, "shore 0 family 0 from 0 to 99 share 50; shore 0 family 1 from 0 to 99 share 50");
        CHECKS.due("the tide", x.cut(0, 0, 1, 11), 2);
        x.day(3, 0, 0, 0);
        CHECKS.due("not so many", x.cut(0, 0, 1, 11), 4);
        CHECKS.due("no work", x.cut(0, 0, 1, 10), 5);
        CHECKS.due("nothing was cut", x.look(0, 0, 0), 10);
        CHECKS.due("no year of a cutting", x.look(0, 0, 1), KelpShores.NONE);
        CHECKS.due("nothing is owed", x.owes(1, 0, 0), 0);
        CHECKS.due("the other family cuts", x.cut(0, 0, 0, 10), 0);
        CHECKS.due("rest is ahead of all the rest", x.cut(0, 0, 1, 11), 3);
        x.day(4, 0, 0, 0);
        CHECKS.due("the tide is ahead of rest", x.cut(0, 0, 1, 11), 2);
    }

    private static void rightsOfTheDayOfTheYear() {
        KelpShores x = Checks.withShores(2);
        x.rock(0, 9, 100);
        x.rock(1, 9, 100);
        Checks.tell(x, "shore 0 family 0 from 1 to 1 share 0; rest 0");
        CHECKS.due("day 0", x.cut(0, 0, 0, 1), 1);
        x.day(9, 0, 0, 0);
        CHECKS.due("day 1, another shore", x.cut(1, 0, 0, 1), 1);
        CHECKS.due("day 1, another family", x.cut(0, 0, 1, 1), 1);
        CHECKS.due("day 1", x.cut(0, 0, 0, 1), 0);
        x.day(9, 0, 0, 0);
        CHECKS.due("day 2", x.cut(0, 0, 0, 1), 1);
        Checks.days(x, 99);
        CHECKS.due("day 101", x.cut(0, 0, 0, 1), 0);
    }

    private static void restOfYears() {
        for (int rest = 0; rest <= 2; rest++) {
            KelpShores x = Checks.withShores(1);
            x.rock(0, 9, 1000);
            Checks.tell(x, "shore 0 family 0 from 0 to 99 share 0; rest " + rest);
            Checks.days(x, 50);
            CHECKS.due("the first cutting", x.cut(0, 0, 0, 1), 0);
            Checks.days(x, 49);
            CHECKS.due("in the year", x.cut(0, 0, 0, 1), 3);
            for (int year = 1; year <= rest; year++) {
                Checks.days(x, 100);
                CHECKS.due("rest " + rest + ", year " + year, x.cut(0, 0, 0, 1), 3);
            }
            Checks.days(x, 1);
            CHECKS.due("rest " + rest + " is over", x.cut(0, 0, 0, 1), 0);
            CHECKS.due("the year of the cutting", x.look(0, 0, 1), rest + 1);
        }
        restFromALaterYear();
        KelpShores first = Checks.withShores(1);
        first.rock(0, 9, 1000);
        Checks.tell(first, "shore 0 family 0 from 0 to 99 share 0");
        first.cut(0, 0, 0, 1);
        Checks.days(first, 200);
        CHECKS.due("rest is 2 at first", first.cut(0, 0, 0, 1), 3);
        Checks.tell(first, "shore 0 family 0 from 0 to 99 share 0; rest 1");
        CHECKS.due("rest as the rights tell now", first.cut(0, 0, 0, 1), 0);
    }

    private static void restFromALaterYear() {
        KelpShores x = Checks.withShores(1);
        x.rock(0, 9, 1000);
        Checks.tell(x, "shore 0 family 0 from 0 to 99 share 0; rest 1");
        Checks.days(x, 199);
        CHECKS.due("cut in year 1", x.cut(0, 0, 0, 1), 0);
        Checks.days(x, 100);
        CHECKS.due("rest in year 2", x.cut(0, 0, 0, 1), 3);
        Checks.days(x, 1);
        CHECKS.due("cut in year 3", x.cut(0, 0, 0, 1), 0);
        CHECKS.due("the latest year", x.look(0, 0, 1), 3);
    }

    private static void twoCuttingsOfADay() {
        KelpShores x = Checks.withShores(1);
        x.rock(0, 9, 100);
        x.rock(0, 9, 100);
        Checks.tell(x, "shore 0 family 0 from 0 to 99 share 15; shore 0 family 1 from 0 to 99 share 0");
        CHECKS.due("the first", x.cut(0, 0, 0, 6), 0);
        CHECKS.due("the second", x.cut(0, 0, 0, 6), 0);
        CHECKS.due("of each cutting a share", x.owes(0, 0, 0), 0);
        CHECKS.due("another family", x.cut(0, 0, 1, 1), 3);
        CHECKS.due("another rock", x.cut(0, 1, 1, 1), 0);
        CHECKS.due("still the first family's day", x.cut(0, 0, 0, 1), 0);
        CHECKS.due("all that was cut", x.look(0, 0, 3), 13);
        x.day(0, 0, 0, 0);
        CHECKS.due("on the next day", x.cut(0, 0, 0, 1), 3);
    }

    private static void gathering() {
        KelpShores x = Checks.withShores(1);
        x.rock(0, 0, 1000);
        x.hands(0, 0);
        x.day(9, 0, 0, 3);
        CHECKS.due("no right", x.gather(0, 0, 1000), 1);
        Checks.tell(x, "shore 0 family 0 from 0 to 99 share 10");
        CHECKS.due("not so many", x.gather(0, 0, 31), 4);
        CHECKS.due("no work", x.gather(0, 0, 30), 5);
        x.hands(0, 6);
        CHECKS.due("the tide is not asked", x.gather(0, 0, 20), 0);
        CHECKS.due("cast", x.cast(0), 10);
        CHECKS.due("wet", x.has(0, 0), 20);
        CHECKS.due("owed", x.owes(0, 0, 0), 2);
        CHECKS.due("no cutting", x.look(0, 0, 1), KelpShores.NONE);
        CHECKS.due("nothing cut", x.look(0, 0, 3), 0);
        CHECKS.due("gathered again", x.gather(0, 0, 10), 0);
        CHECKS.due("all is gathered", x.cast(0), 0);
        CHECKS.due("none is left", x.gather(0, 0, 1), 4);
        Checks.tell(x, "shore 0 family 0 from 7 to 8 share 100");
        x.day(9, 0, 0, 9);
        CHECKS.due("day 2", x.gather(0, 0, 5), 1);
        Checks.days(x, 105);
        CHECKS.due("day 107", x.gather(0, 0, 5), 0);
        CHECKS.due("owed in the next year", x.owes(0, 0, 1), 5);
        CHECKS.due("owed in the year ahead", x.owes(0, 0, 0), 3);
    }

    private static void workForBoth() {
        KelpShores x = Checks.withShores(1);
        x.rock(0, 0, 1000);
        x.day(0, 0, 0, 9);
        Checks.tell(x, "shore 0 family 0 from 0 to 99 share 10");
        CHECKS.due("gather 12", x.gather(0, 0, 12), 0);
        CHECKS.due("cut 9", x.cut(0, 0, 0, 9), 5);
        CHECKS.due("cut 8", x.cut(0, 0, 0, 8), 0);
        CHECKS.due("no work is left", x.has(0, 3), 0);
        CHECKS.due("gather 1", x.gather(0, 0, 1), 5);
        x.hands(0, 5);
        CHECKS.due("more hands", x.has(0, 3), 5);
        CHECKS.due("gather 6", x.gather(0, 0, 6), 5);
        CHECKS.due("gather 5", x.gather(0, 0, 5), 0);
        x.hands(0, 1);
        CHECKS.due("fewer hands than work", x.has(0, 3), 0);
        CHECKS.due("no work for fewer hands", x.gather(0, 0, 1), 5);
    }

    private static void wrongInputs() {
        KelpShores x = Checks.withShores(1);
        x.rock(0, 0, 1000);
        int[] amounts = {0, -1, 1001, Integer.MAX_VALUE, Integer.MIN_VALUE};
        for (int n : amounts) {
            CHECKS.noArgument("cut " + n, () -> x.cut(0, 0, 0, n));
            CHECKS.noArgument("gather " + n, () -> x.gather(0, 0, n));
        }
        CHECKS.due("cut 1000 without a right", x.cut(0, 0, 0, 1000), 1);
        CHECKS.due("gather 1000 without a right", x.gather(0, 0, 1000), 1);
        CHECKS.noIndex("cut on shore 1", () -> x.cut(1, 0, 0, 0));
        CHECKS.noIndex("cut on shore -1", () -> x.cut(-1, 0, 0, 1));
        CHECKS.noIndex("cut rock 1", () -> x.cut(0, 1, 0, 0));
        CHECKS.noIndex("cut rock -1", () -> x.cut(0, -1, 0, 1));
        CHECKS.noIndex("cut rock 4", () -> x.cut(0, 4, 0, 1));
        CHECKS.noIndex("cut by family 8", () -> x.cut(0, 0, 8, 0));
        CHECKS.noIndex("cut by family -1", () -> x.cut(0, 0, -1, 1));
        CHECKS.noIndex("gather on shore 1", () -> x.gather(1, 0, 0));
        CHECKS.noIndex("gather by family 8", () -> x.gather(0, 8, 0));
        CHECKS.noIndex("gather by family -1", () -> x.gather(0, -1, 1));
    }

    private static void whatIsOwed() {
        KelpShores x = Checks.withShores(2);
        x.rock(0, 9, 1000);
        x.rock(1, 9, 1000);
        x.hands(3, 20);
        Checks.tell(x, "shore 0 family 3 from 50 to 99 share 1; shore 0 family 3 from 0 to 99 share 33;"
                + "shore 1 family 3 from 0 to 99 share 100; shore 0 family 3 from 0 to 99 share 90; rest 0");
        CHECKS.due("cut 20 by the second part", x.cut(0, 0, 3, 20), 0);
        CHECKS.due("6 of 6.6", x.owes(3, 0, 0), 6);
        CHECKS.due("cut 7 of the other shore", x.cut(1, 0, 3, 7), 0);
        CHECKS.due("all of it", x.owes(3, 1, 0), 7);
        CHECKS.due("the first shore's stays", x.owes(3, 0, 0), 6);
        CHECKS.due("another family's", x.owes(2, 0, 0), 0);
        Checks.days(x, 150);
        CHECKS.due("cut 100 by the first part", x.cut(0, 0, 3, 100), 0);
        CHECKS.due("1 of 100", x.owes(3, 0, 1), 1);
        CHECKS.due("the year ahead", x.owes(3, 0, 0), 6);
        CHECKS.due("a year without", x.owes(3, 0, 99), 0);
        CHECKS.due("year 100", x.owes(3, 0, 100), 0);
        CHECKS.due("year -1", x.owes(3, 1, -1), 0);
        CHECKS.due("the most year", x.owes(3, 1, Integer.MAX_VALUE), 0);
        CHECKS.due("the least year", x.owes(3, 1, Integer.MIN_VALUE), 0);
        CHECKS.noIndex("owes for shore 2", () -> x.owes(3, 2, 0));
        CHECKS.noIndex("owes for shore -1", () -> x.owes(3, -1, 100));
        CHECKS.noIndex("family 8 owes", () -> x.owes(8, 0, 0));
        CHECKS.noIndex("family -1 owes", () -> x.owes(-1, 0, 0));
    }

    /** More calls than the document counts: the rows of all its years are there too. */
    private static void owedInTheLastYear() {
        KelpShores x = Checks.withShores(6);
        x.rock(5, 9, 1000);
        Checks.tell(x, "shore 5 family 7 from 0 to 99 share 50; rest 0");
        Checks.days(x, 9850);
        CHECKS.due("cut in year 98", x.cut(5, 0, 7, 10), 0);
        Checks.days(x, 149);
        CHECKS.due("cut on the last day", x.cut(5, 0, 7, 20), 0);
        CHECKS.due("owed in year 98", x.owes(7, 5, 98), 5);
        CHECKS.due("owed in year 99", x.owes(7, 5, 99), 10);
        CHECKS.due("year 100", x.owes(7, 5, 100), 0);
    }
}
