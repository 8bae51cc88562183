/** Promises 17 to 19: pit, light, burns; and what a day does to a pit. */
final class PitsTest {
    private static final Checks CHECKS = new Checks();

    public static void main(String[] args) {
        pitsHaveAnEnd();
        lightingAtItsBounds();
        burningToAsh();
        rainPutsOut();
        rainAheadOfThePit();
        pitsOfTwoFamilies();
        CHECKS.close();
    }

    /** A family with 25 dry for each hundred that it cut, and the rest of it wet. */
    private static KelpShores withDry(int family, int cuttings) {
        KelpShores x = Checks.withShores(1);
        for (int rock = 0; rock < 4; rock++) {
            x.rock(0, 9, 1000);
        }
        x.hands(family, 20);
        Checks.tell(x, "shore 0 family " + family + " from 0 to 99 share 0");
        for (int i = 0; i < cuttings; i++) {
            x.cut(0, i % 4, family, 100);
            x.day(0, 9, 0, 0);
        }
        return x;
    }

    private static void pitsHaveAnEnd() {
        KelpShores x = new KelpShores();
        for (int i = 0; i < 12; i++) {
            CHECKS.noIndex("burns ahead", () -> x.burns(x.count(2)));
            CHECKS.due("pit", x.pit(i % 8), i);
            CHECKS.due("burns", x.burns(i), 0);
        }
        CHECKS.noMore("a thirteenth pit", () -> x.pit(0));
        CHECKS.noIndex("a thirteenth pit of no family", () -> x.pit(8));
        CHECKS.noIndex("pit of family -1", () -> x.pit(-1));
        CHECKS.due("there are 12", x.count(2), 12);
        CHECKS.noIndex("burns(12)", () -> x.burns(12));
        CHECKS.noIndex("burns(-1)", () -> x.burns(-1));
        CHECKS.noIndex("light(12, 20)", () -> x.light(12, 0));
        CHECKS.noIndex("light(-1, 20)", () -> x.light(-1, 20));
    }

    private static void lightingAtItsBounds() {
        KelpShores x = withDry(0, 1);
        x.pit(0);
        x.pit(1);
        CHECKS.due("dry", x.has(0, 1), 22);
        int[] wrong = {19, 0, -20, 1001, Integer.MAX_VALUE, Integer.MIN_VALUE};
        for (int load : wrong) {
            CHECKS.noArgument("a load of " + load, () -> x.light(0, load));
        }
        CHECKS.due("too little dry", x.light(0, 23), false);
        CHECKS.due("1000 are far too many", x.light(0, 1000), false);
        CHECKS.due("another family's pit", x.light(1, 20), false);
        CHECKS.due("none burns", x.count(3), 0);
        CHECKS.due("lit with all", x.light(0, 22), true);
        CHECKS.due("none is dry", x.has(0, 1), 0);
        CHECKS.due("three days", x.burns(0), 3);
        CHECKS.due("one burns", x.count(3), 1);
        CHECKS.noArgument("a burning pit, a wrong load", () -> x.light(0, 19));
    }

    private static void burningToAsh() {
        KelpShores x = withDry(0, 3);
        x.pit(0);
        int dry = x.has(0, 1);
        CHECKS.due("lit", x.light(0, 24), true);
        CHECKS.due("it burns already", x.light(0, 20), false);
        CHECKS.due("dry is less by the load", x.has(0, 1), dry - 24);
        x.day(0, 0, 2, 0);
        CHECKS.due("two days", x.burns(0), 2);
        x.day(0, 0, 0, 0);
        CHECKS.due("one day", x.burns(0), 1);
        CHECKS.due("it burns on its last day too", x.light(0, 20), false);
        CHECKS.due("no ash yet", x.has(0, 2), 0);
        x.day(0, 0, 2, 0);
        CHECKS.due("empty", x.burns(0), 0);
        CHECKS.due("none burns", x.count(3), 0);
        CHECKS.due("a fifth of 24", x.has(0, 2), 4);
        CHECKS.due("nothing lost", x.has(0, 5), 0);
        x.day(0, 0, 9, 0);
        CHECKS.due("an empty pit gives nothing more", x.has(0, 2), 4);
        CHECKS.due("an empty pit loses nothing", x.has(0, 5), 0);
        CHECKS.due("lit again", x.light(0, 20), true);
        Checks.days(x, 3);
        CHECKS.due("ash adds up", x.has(0, 2), 8);
    }

    private static void rainPutsOut() {
        for (int dry = 0; dry < 3; dry++) {
            KelpShores x = withDry(0, 1);
            x.pit(0);
            x.light(0, 21);
            Checks.days(x, dry);
            x.day(0, 0, 3, 0);
            CHECKS.due("out", x.burns(0), 0);
            CHECKS.due("half of 21 is dry again", x.has(0, 1), 11);
            CHECKS.due("the rest is lost", x.has(0, 5), 11);
            CHECKS.due("no ash", x.has(0, 2), 0);
            Checks.days(x, 3);
            CHECKS.due("nor later", x.has(0, 2), 0);
        }
    }

    private static void rainAheadOfThePit() {
        KelpShores x = withDry(0, 1);
        x.pit(0);
        x.light(0, 20);
        x.day(0, 0, 5, 0);
        CHECKS.due("2 dry spoil ahead of the 10 from the pit", x.has(0, 1), 11);
        CHECKS.due("a tenth of 2", x.has(0, 4), 1);
        CHECKS.due("lost", x.has(0, 5), 10);
    }

    private static void pitsOfTwoFamilies() {
        KelpShores x = withDry(5, 4);
        x.pit(2);
        x.pit(5);
        x.pit(5);
        CHECKS.due("family 2 has none", x.light(0, 20), false);
        CHECKS.due("family 5 lights", x.light(1, 25), true);
        x.day(0, 0, 0, 0);
        CHECKS.due("and another one", x.light(2, 30), true);
        CHECKS.due("two burn", x.count(3), 2);
        Checks.days(x, 2);
        CHECKS.due("the first is done", x.has(5, 2), 5);
        CHECKS.due("one burns", x.count(3), 1);
        x.day(0, 0, 0, 0);
        CHECKS.due("the second is done", x.has(5, 2), 11);
        CHECKS.due("no ash of family 2", x.has(2, 2), 0);
    }
}
