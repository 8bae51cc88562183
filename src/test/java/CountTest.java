/** Promise 27: count. */
final class CountTest {
    private static final Checks CHECKS = new Checks();
    private static final int FAMILY = 1;

    public static void main(String[] args) {
        CHECKS.sentence("27: 0 TODAY ... 8 PARTS with RIGHTS", CountTest::all);
        CHECKS.sentence("27: 3 PITS that burn", CountTest::pitsThatBurn);
        CHECKS.sentence("27: 5 ENTRIES (also those taken back)", CountTest::entries);
        CHECKS.sentence("27: 8 PARTS with RIGHTS (not those with rest)", CountTest::partsWithRights);
        CHECKS.sentence("27: NONE for another what", CountTest::anotherWhat);
        CHECKS.close();
    }

    private static void counts(KelpShores x, int... due) {
        for (int what = 0; what < due.length; what++) {
            CHECKS.due("count(" + what + ")", x.count(what), due[what]);
        }
    }

    private static void all() {
        KelpShores x = new KelpShores();
        counts(x, 0, 0, 0, 0, 0, 0, 0, 2, 0);
        x = Scenes.withAsh(FAMILY, 3);
        counts(x, 7, 1, 1, 0, 0, 0, 0, 0, 1);
        x.shore();
        x.shore();
        x.pit(0);
        x.sell(FAMILY, 2, 3, 1, 1, 1, 0, 0);
        for (int i = 0; i < 4; i++) {
            x.enter(0, 1, 1);
            x.foretell(true, true, true);
        }
        x.foretell(false, false, false);
        Scenes.tell(x, Scenes.allYear(2, 0, 0) + "; rest 9;" + Scenes.allYear(1, 0, 0));
        counts(x, 7, 3, 2, 0, 1, 5, 5, 9, 2);
    }

    private static void pitsThatBurn() {
        KelpShores x = Scenes.withMuchDry(FAMILY, 4);
        for (int pit = 0; pit < 3; pit++) {
            x.pit(FAMILY);
            CHECKS.due("ahead of the fire", x.count(3), pit);
            x.light(pit, 20);
            CHECKS.due("behind it", x.count(3), pit + 1);
        }
        Scenes.days(x, 2);
        CHECKS.due("two days later", x.count(3), 3);
        x.day(0, 0, 0, 0);
        CHECKS.due("three days later", x.count(3), 0);
        CHECKS.due("pits in all", x.count(2), 3);
    }

    private static void entries() {
        KelpShores x = new KelpShores();
        x.enter(0, 1, 1);
        x.enter(0, 1, 1);
        CHECKS.due("two", x.count(5), 2);
        x.undo(0);
        CHECKS.due("one is taken back", x.count(5), 2);
        x.enter(0, 1, 1);
        CHECKS.due("one more", x.count(5), 3);
    }

    private static void partsWithRights() {
        KelpShores x = Scenes.withShores(1);
        Scenes.tell(x, "rest 1;rest 2;rest 3");
        CHECKS.due("none", x.count(8), 0);
        Scenes.tell(x, "rest 1;" + Scenes.allYear(0, 0, 0) + ";rest 3;" + Scenes.allYear(0, 0, 0));
        CHECKS.due("two", x.count(8), 2);
        CHECKS.due("rest", x.count(7), 3);
    }

    private static void anotherWhat() {
        KelpShores x = InUse.made();
        int[] none = {-1, 9, 10, Integer.MIN_VALUE, Integer.MAX_VALUE};
        for (int what : none) {
            CHECKS.due("count(" + what + ")", x.count(what), KelpShores.NONE);
        }
        for (int what = 0; what <= 8; what++) {
            CHECKS.due("count(" + what + ") is one", x.count(what) > 0, true);
        }
    }
}
