/** Promise 27: count, beside what the other tests ask of it. */
final class CountTest {
    private static final Checks CHECKS = new Checks();

    public static void main(String[] args) {
        KelpShores x = Checks.withShores(3);
        Checks.days(x, 4);
        x.rock(2, 9, 1000);
        x.hands(1, 20);
        Checks.tell(x, "rest 7; shore 2 family 1 from 0 to 99 share 0");
        x.cut(2, 0, 1, 100);
        x.day(0, 9, 0, 0);
        x.pit(0);
        x.pit(1);
        x.light(1, 20);
        x.foretell(true, true, true);
        x.foretell(true, true, true);
        x.enter(0, 1, 1);
        x.enter(0, 1, 1);
        counts(x, 5, 3, 2, 1, 0, 2, 2, 7, 1);
        Checks.days(x, 3);
        x.sell(1, 4, 3, 1, 1, 1, 0, 0);
        x.undo(0);
        x.plan();
        counts(x, 8, 3, 2, 0, 1, 3, 0, 7, 1);
        int[] none = {-1, 9, Integer.MIN_VALUE, Integer.MAX_VALUE};
        for (int what : none) {
            CHECKS.due("count(" + what + ")", x.count(what), KelpShores.NONE);
        }
        CHECKS.close();
    }

    private static void counts(KelpShores x, int... due) {
        for (int what = 0; what < due.length; what++) {
            CHECKS.due("count(" + what + ")", x.count(what), due[what]);
        }
    }
}
