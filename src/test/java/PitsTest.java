/** Promises 17 to 19: pit, light, burns; what a day does to a pit stands in DaysTest. */
final class PitsTest {
    private static final Checks CHECKS = new Checks();
    private static final int FAMILY = 4;

    public static void main(String[] args) {
        CHECKS.sentence("17: A PIT: its number", PitsTest::pitNumbers);
        CHECKS.sentence("17: UnsupportedOperationException: there are 12", PitsTest::twelvePits);
        CHECKS.sentence("Terms: PITS of a FAMILY: empty at first", PitsTest::emptyAtFirst);
        CHECKS.sentence("18: A PIT is lit: true", PitsTest::lit);
        CHECKS.sentence("18: false, and nothing happens, if it burns", PitsTest::ifItBurns);
        CHECKS.sentence("18: or DRY is less", PitsTest::ifDryIsLess);
        CHECKS.sentence("18: IllegalArgumentException: the load is none (20 to 1000)", PitsTest::loadsThatAreNone);
        CHECKS.sentence("Terms: it burns for 3 days", PitsTest::forThreeDays);
        CHECKS.sentence("19: Days that a PIT has still to burn", PitsTest::daysStillToBurn);
        CHECKS.sentence("19: 0 of an empty one", PitsTest::noDaysOfAnEmptyOne);
        CHECKS.close();
    }

    private static void pitNumbers() {
        KelpShores x = new KelpShores();
        int[] families = {7, 0, 7, 3};
        for (int i = 0; i < families.length; i++) {
            CHECKS.due("a pit of family " + families[i], x.pit(families[i]), i);
            CHECKS.due("how many", x.count(2), i + 1);
        }
    }

    private static void twelvePits() {
        KelpShores x = new KelpShores();
        for (int i = 0; i < 12; i++) {
            CHECKS.due("pit", x.pit(i % 8), i);
        }
        CHECKS.noMore("a thirteenth", () -> x.pit(0));
        CHECKS.noMore("a thirteenth of another family", () -> x.pit(7));
        CHECKS.due("there are 12", x.count(2), 12);
        CHECKS.due("the twelfth", x.burns(11), 0);
        CHECKS.noIndex("no thirteenth", () -> x.burns(12));
        InUse.isLeftBy(CHECKS, "a thirteenth pit", PitsTest::fillPits, used -> used.pit(1));
    }

    private static void fillPits(KelpShores x) {
        while (x.count(2) < 12) {
            x.pit(1);
        }
    }

    private static void emptyAtFirst() {
        KelpShores x = Scenes.withDry(FAMILY, 20);
        x.pit(FAMILY);
        CHECKS.due("burns", x.burns(0), 0);
        CHECKS.due("none burns", x.count(3), 0);
        CHECKS.due("lit", x.light(0, 20), true);
        CHECKS.due("burns then", x.burns(0), 3);
    }

    private static void lit() {
        KelpShores x = Scenes.withDry(FAMILY, 22);
        x.pit(0);
        x.pit(FAMILY);
        CHECKS.due("lit", x.light(1, 20), true);
        CHECKS.due("dry is less by the load", x.has(FAMILY, 1), 2);
        CHECKS.due("no ash as yet", x.has(FAMILY, 2), 0);
        CHECKS.due("nothing is lost", x.has(FAMILY, 5), 0);
        CHECKS.due("one burns", x.count(3), 1);
        CHECKS.due("the other does not", x.burns(0), 0);
    }

    private static void ifItBurns() {
        KelpShores x = Scenes.withMuchDry(FAMILY, 4);
        x.pit(FAMILY);
        x.pit(FAMILY);
        CHECKS.due("lit", x.light(0, 20), true);
        int dry = x.has(FAMILY, 1);
        for (int day = 0; day < 3; day++) {
            CHECKS.due("it burns for " + day + " days", x.light(0, 20), false);
            CHECKS.due("days stay", x.burns(0), 3 - day);
            CHECKS.due("dry stays", x.has(FAMILY, 1), dry);
            x.day(0, 0, 0, 0);
        }
        CHECKS.due("the first load's ash", x.has(FAMILY, 2), 4);
        CHECKS.due("it is empty", x.light(0, 21), true);
        CHECKS.due("another one", x.light(1, 20), true);
        InUse.isLeftBy(CHECKS, "a pit that burns", used -> used.light(0, 21));
        CHECKS.due("that one burns", InUse.made().light(0, 21), false);
    }

    private static void ifDryIsLess() {
        KelpShores x = Scenes.withDry(FAMILY, 22);
        x.pit(FAMILY);
        x.pit(FAMILY + 1);
        CHECKS.due("23 of 22", x.light(0, 23), false);
        CHECKS.due("1000 of 22", x.light(0, 1000), false);
        CHECKS.due("another family's pit", x.light(1, 20), false);
        CHECKS.due("none burns", x.count(3), 0);
        CHECKS.due("dry stays", x.has(FAMILY, 1), 22);
        CHECKS.due("22 of 22", x.light(0, 22), true);
        CHECKS.due("none is left", x.has(FAMILY, 1), 0);
        InUse.isLeftBy(CHECKS, "a load that is not there", used -> used.light(2, 1000));
        CHECKS.due("that pit would be lit", InUse.made().light(2, 20), true);
    }

    private static void loadsThatAreNone() {
        KelpShores x = Scenes.withWeed(FAMILY, 0);
        x.shore();
        for (int rock = 0; rock < 4; rock++) {
            x.rock(1, 0, 1000);
        }
        Scenes.tell(x, Scenes.allYear(0, FAMILY, 0) + ";" + Scenes.allYear(1, FAMILY, 0));
        Scenes.gatherFor(x, FAMILY, 2, 50);
        CHECKS.due("more than 1021 are dry", x.has(FAMILY, 1) > 1021, true);
        x.pit(FAMILY);
        x.pit(FAMILY);
        int[] wrong = {19, 0, -1, -20, 1001, Integer.MAX_VALUE, Integer.MIN_VALUE};
        for (int load : wrong) {
            CHECKS.noArgument("a load of " + load, () -> x.light(0, load));
        }
        CHECKS.due("none burns", x.count(3), 0);
        CHECKS.due("a load of 20", x.light(0, 20), true);
        CHECKS.due("a load of 1000", x.light(1, 1000), true);
        CHECKS.noArgument("19 for a pit that burns", () -> x.light(0, 19));
        Scenes.days(x, 3);
        CHECKS.due("ash of both", x.has(FAMILY, 2), 204);
    }

    private static void forThreeDays() {
        KelpShores x = Scenes.withDry(FAMILY, 20);
        x.light(x.pit(FAMILY), 20);
        Scenes.days(x, 2);
        CHECKS.due("two days later it burns", x.count(3), 1);
        CHECKS.due("and has given nothing", x.has(FAMILY, 2), 0);
        x.day(0, 0, 0, 0);
        CHECKS.due("three days later it does not", x.count(3), 0);
        CHECKS.due("and has given its ash", x.has(FAMILY, 2), 4);
    }

    private static void daysStillToBurn() {
        KelpShores x = Scenes.withMuchDry(FAMILY, 4);
        x.pit(FAMILY);
        x.pit(FAMILY);
        x.light(0, 25);
        x.day(0, 0, 0, 0);
        x.light(1, 30);
        int[][] due = {{2, 3}, {1, 2}, {0, 1}, {0, 0}, {0, 0}};
        for (int[] each : due) {
            CHECKS.due("the first", x.burns(0), each[0]);
            CHECKS.due("the second", x.burns(1), each[1]);
            CHECKS.due("how many burn", x.count(3), (each[0] > 0 ? 1 : 0) + (each[1] > 0 ? 1 : 0));
            x.day(0, 0, 0, 0);
        }
        CHECKS.due("ash of both", x.has(FAMILY, 2), 11);
    }

    private static void noDaysOfAnEmptyOne() {
        KelpShores x = Scenes.withDry(FAMILY, 20);
        x.pit(FAMILY);
        CHECKS.due("ahead of any load", x.burns(0), 0);
        x.day(0, 0, 0, 0);
        CHECKS.due("a day later", x.burns(0), 0);
        x.light(0, 20);
        CHECKS.due("lit", x.burns(0), 3);
        x.day(0, 0, 3, 0);
        CHECKS.due("out", x.burns(0), 0);
        x.day(0, 0, 0, 0);
        CHECKS.due("a day later than that", x.burns(0), 0);
    }
}
