import java.util.function.Consumer;

/** An object in full use, and all that can be asked of one: what a refused call must leave as it was. */
final class InUse {
    static final int SHORES = 2;
    static final int[] ROCKS = {3, 1};
    static final int PITS = 3;
    static final int LOTS = 2;
    static final int ENTRIES = 5;
    /** Where the latest text was wrong, so that a text that is wrong there too changes nothing of fault(). */
    static final int FAULT = 5;
    private static final int FAMILY = 6;

    private InUse() {
    }

    /** Nothing in it is as at first: a family cuts and burns TODAY, the tide is in, the tape has two parts. */
    static KelpShores made() {
        KelpShores x = Scenes.withShores(SHORES);
        x.rock(0, 0, 1000);
        x.rock(0, 6, 1000);
        x.rock(0, 2, 900);
        x.rock(1, 4, 300);
        x.hands(FAMILY, 20);
        x.hands(2, 7);
        Scenes.tell(x, Scenes.allYear(0, FAMILY, 37) + ";" + Scenes.right(1, 2, 3, 90, 5) + ";rest 3");
        for (int i = 0; i < PITS; i++) {
            x.pit(i == 1 ? 2 : FAMILY);
        }
        Scenes.gatherFor(x, FAMILY, 1, 8);
        x.cut(1, 0, 2, 30);
        x.light(0, 30);
        x.light(2, 50);
        x.day(0, 7, 2, 5);
        x.day(0, 3, 5, 1);
        x.light(2, 47);
        Scenes.days(x, 3);
        sellAndEnter(x);
        x.light(0, 20);
        x.day(5, 2, 0, 0);
        x.undo(2);
        x.cut(0, 1, FAMILY, 40);
        x.enter(FAMILY, 9, 400);
        foretell(x);
        Checks.thrownBy(() -> Scenes.tell(x, "rest x"));
        Scenes.feedText(x, "rest 7;" + Scenes.right(0, 2, 8, 80, 3));
        return x;
    }

    private static void sellAndEnter(KelpShores x) {
        x.sell(FAMILY, 4, 4, 30, 44, 35, 40, 0);
        x.sell(FAMILY, 3, 3, 30, 51, 35, 0, 0);
        x.enter(FAMILY, -700, 3);
        x.enter(2, 60, 12);
    }

    private static void foretell(KelpShores x) {
        for (int day = 0; day < 9; day++) {
            x.foretell(day < 3, day > 1, day == 4);
        }
    }

    /** Asks for all, and uses up what can be seen by that alone: nothing more can be asked of the object. */
    static String allOf(KelpShores x) {
        StringBuilder all = new StringBuilder();
        for (int what = 0; what <= 8; what++) {
            all.append(" count ").append(x.count(what));
        }
        all.append(" fault ").append(x.fault());
        shoresOf(x, all);
        familiesOf(x, all);
        for (int pit = 0; pit < x.count(2); pit++) {
            all.append(" burns ").append(x.burns(pit));
        }
        for (int lot = 0; lot < Math.min(3, x.count(4)); lot++) {
            for (int what = 0; what <= 5; what++) {
                all.append(" lot ").append(x.lot(lot, what));
            }
        }
        usedUp(x, all);
        return all.toString();
    }

    private static void shoresOf(KelpShores x, StringBuilder all) {
        for (int shore = 0; shore < SHORES; shore++) {
            all.append(" cast ").append(x.cast(shore));
            for (int rock = 0; rock < ROCKS[shore]; rock++) {
                for (int what = 0; what <= 4; what++) {
                    all.append(" look ").append(x.look(shore, rock, what));
                }
            }
        }
    }

    private static void familiesOf(KelpShores x, StringBuilder all) {
        int today = x.count(0);
        for (int family = 0; family < 8; family += 2) {
            for (int what = 0; what <= 6; what++) {
                all.append(" has ").append(x.has(family, what));
            }
            for (int shore = 0; shore < SHORES; shore++) {
                all.append(" owes ").append(x.owes(family, shore, 0));
                all.append(" may ").append(x.may(shore, family, today)).append(x.may(shore, family, 99));
            }
            all.append(" balance ").append(x.balance(family, 9999, today))
                    .append(' ').append(x.balance(family, 9999, today - 1));
        }
    }

    private static void usedUp(KelpShores x, StringBuilder all) {
        all.append(" tide ").append(x.cut(1, 0, 2, 1)).append(x.cut(0, 0, FAMILY, 1));
        all.append(" second cutting ").append(x.cut(0, 1, FAMILY, 1));
        all.append(" plan ").append(x.plan());
        all.append(" tape ").append(x.end(401)).append(' ');
        try {
            all.append(x.rights());
        } catch (IllegalArgumentException e) {
            all.append("wrong at ").append(x.fault());
        }
        for (int day = 0; day < 3; day++) {
            x.day(0, 9, 0, 0);
        }
        for (int what = 0; what <= 6; what++) {
            all.append(" later ").append(x.has(FAMILY, what)).append(' ').append(x.has(2, what));
        }
    }

    static void isLeftBy(Checks checks, String what, Consumer<KelpShores> call) {
        isLeftBy(checks, what, x -> { }, call);
    }

    /** What is asked behind the call is answered as if there had been none, whether it throws or not. */
    static void isLeftBy(Checks checks, String what, Consumer<KelpShores> prepare, Consumer<KelpShores> call) {
        KelpShores without = made();
        prepare.accept(without);
        KelpShores with = made();
        prepare.accept(with);
        Checks.thrownBy(() -> call.accept(with));
        checks.due("all that is behind " + what, allOf(with), allOf(without));
    }
}
