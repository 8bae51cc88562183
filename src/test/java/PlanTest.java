import java.util.Arrays;
import java.util.Random;

/** Promises 25 and 26: foretell, plan; with the sentences of "==== 4". */
final class PlanTest {
    private static final Checks CHECKS = new Checks();
    private static final int IDLE = 0;
    private static final int LOW = 1;
    private static final int WINDY = 2;
    private static final int RAINY = 4;
    private static final int BOTH = LOW | WINDY;

    public static void main(String[] args) {
        CHECKS.sentence("25: A day is FORETOLD, behind those that are: how many", PlanTest::howMany);
        CHECKS.sentence("25: NONE, and it is not, if there are 16", PlanTest::sixteenDays);
        CHECKS.sentence("26: nothing is FORETOLD any more", PlanTest::nothingAnyMore);
        CHECKS.sentence("26: PLAN of nothing FORETOLD at all", PlanTest::nothingAtAll);
        CHECKS.sentence("==== 4: On each day one thing is done", PlanTest::oneThingADay);
        CHECKS.sentence("==== 4: cutting, if it is LOW: one load is WET", PlanTest::cutting);
        CHECKS.sentence("==== 4: drying, if it is WINDY and not RAINY: one WET load is dry", PlanTest::drying);
        CHECKS.sentence("==== 4: lighting, if there are dry loads: all that are dry burn", PlanTest::lighting);
        CHECKS.sentence("==== 4: this day and the next two are FORETOLD", PlanTest::foretoldToTheEnd);
        CHECKS.sentence("==== 4: and not RAINY", PlanTest::notRainy);
        CHECKS.sentence("==== 4: on the next two days other things are done", PlanTest::nextTwoDays);
        CHECKS.sentence("==== 4: PLAN: the most loads that can be burnt (every forecast of 5 days)",
                PlanTest::everyShortForecast);
        CHECKS.sentence("==== 4: PLAN: the most loads that can be burnt (up to 16 days)", PlanTest::longForecasts);
        CHECKS.close();
    }

    private static int foretold(KelpShores x, int... days) {
        int many = 0;
        for (int day : days) {
            many = x.foretell((day & LOW) != 0, (day & WINDY) != 0, (day & RAINY) != 0);
        }
        return many;
    }

    private static void planIs(int due, int... days) {
        KelpShores x = new KelpShores();
        foretold(x, days);
        CHECKS.due("plan of " + Arrays.toString(days), x.plan(), due);
    }

    private static void howMany() {
        KelpShores x = new KelpShores();
        for (int i = 1; i <= 16; i++) {
            CHECKS.due("foretell", foretold(x, i % 8), i);
            CHECKS.due("count(6)", x.count(6), i);
        }
        planIs(1, LOW, WINDY, IDLE, IDLE, IDLE);
        planIs(0, WINDY, LOW, IDLE, IDLE, IDLE);
    }

    private static void sixteenDays() {
        KelpShores x = new KelpShores();
        int[] days = {LOW, LOW, LOW, LOW, LOW, LOW, WINDY, WINDY, WINDY, WINDY, WINDY, WINDY, RAINY, IDLE, IDLE};
        foretold(x, days);
        CHECKS.due("the sixteenth", foretold(x, IDLE), 16);
        CHECKS.due("a seventeenth", foretold(x, IDLE), KelpShores.NONE);
        CHECKS.due("and again", foretold(x, RAINY), KelpShores.NONE);
        CHECKS.due("there are 16", x.count(6), 16);
        CHECKS.due("their plan", x.plan(), 6);
        KelpShores rainy = new KelpShores();
        foretold(rainy, LOW, WINDY);
        for (int i = 0; i < 12; i++) {
            foretold(rainy, RAINY);
        }
        CHECKS.due("sixteen, two of them fair at the end", foretold(rainy, IDLE, IDLE), 16);
        CHECKS.due("a third fair day, that would be needed", foretold(rainy, IDLE), KelpShores.NONE);
        CHECKS.due("plan without it", rainy.plan(), 0);
        InUse.isLeftBy(CHECKS, "a day more", PlanTest::fillDays, used -> used.foretell(true, true, false));
    }

    private static void fillDays(KelpShores x) {
        while (x.count(6) < 16) {
            x.foretell(false, true, false);
        }
    }

    private static void nothingAnyMore() {
        KelpShores x = new KelpShores();
        foretold(x, LOW, WINDY, IDLE, IDLE, IDLE);
        CHECKS.due("plan", x.plan(), 1);
        CHECKS.due("days foretold", x.count(6), 0);
        CHECKS.due("plan again", x.plan(), 0);
        CHECKS.due("the first day anew", foretold(x, IDLE), 1);
        CHECKS.due("behind it", foretold(x, IDLE, IDLE, IDLE, IDLE), 5);
        CHECKS.due("no loads are left", x.plan(), 0);
        foretold(x, IDLE, IDLE, IDLE);
        CHECKS.due("no days are left", x.plan(), 0);
        for (int i = 0; i < 16; i++) {
            foretold(x, BOTH);
        }
        CHECKS.due("sixteen anew", x.count(6), 16);
        CHECKS.due("their plan", x.plan(), 6);
        CHECKS.due("none of sixteen", x.count(6), 0);
    }

    private static void nothingAtAll() {
        KelpShores x = new KelpShores();
        CHECKS.due("plan", x.plan(), 0);
        CHECKS.due("days foretold", x.count(6), 0);
        planIs(0, IDLE);
        planIs(0, BOTH);
        planIs(0, BOTH, BOTH, BOTH, BOTH);
        planIs(1, BOTH, BOTH, BOTH, BOTH, BOTH);
    }

    private static void oneThingADay() {
        planIs(0, BOTH, IDLE, IDLE, IDLE);
        planIs(0, IDLE, BOTH, IDLE, IDLE, IDLE);
        planIs(1, BOTH, BOTH, IDLE, IDLE, IDLE);
        planIs(1, BOTH, BOTH, BOTH, IDLE, IDLE, IDLE);
        planIs(2, BOTH, BOTH, BOTH, BOTH, IDLE, IDLE, IDLE);
        planIs(1, LOW, LOW, WINDY, WINDY, IDLE, IDLE);
        planIs(2, LOW, LOW, WINDY, WINDY, IDLE, IDLE, IDLE);
    }

    private static void cutting() {
        planIs(0, WINDY, WINDY, IDLE, IDLE, IDLE);
        planIs(1, LOW, WINDY, WINDY, IDLE, IDLE, IDLE);
        planIs(2, LOW, LOW, WINDY, WINDY, IDLE, IDLE, IDLE);
        planIs(1, LOW | RAINY, WINDY, IDLE, IDLE, IDLE);
        planIs(0, WINDY, LOW, IDLE, IDLE, IDLE);
    }

    private static void drying() {
        planIs(0, LOW, IDLE, IDLE, IDLE, IDLE);
        planIs(1, LOW, WINDY, IDLE, IDLE, IDLE);
        planIs(0, LOW, WINDY | RAINY, IDLE, IDLE, IDLE);
        planIs(1, LOW, LOW, WINDY, IDLE, IDLE, IDLE);
        planIs(2, LOW, LOW, LOW, WINDY, WINDY, IDLE, IDLE, IDLE);
        planIs(3, LOW, LOW, LOW, WINDY, WINDY, WINDY, IDLE, IDLE, IDLE);
    }

    private static void lighting() {
        planIs(0, IDLE, IDLE, IDLE, IDLE, IDLE);
        planIs(1, LOW, WINDY, IDLE, IDLE, IDLE);
        planIs(2, LOW, LOW, WINDY, WINDY, IDLE, IDLE, IDLE);
        planIs(6, LOW, LOW, LOW, LOW, LOW, LOW, WINDY, WINDY, WINDY, WINDY, WINDY, WINDY, IDLE, IDLE, IDLE);
        planIs(6, BOTH, BOTH, BOTH, BOTH, BOTH, BOTH, BOTH, BOTH, BOTH, BOTH, BOTH, BOTH, BOTH, BOTH, BOTH, BOTH);
    }

    private static void foretoldToTheEnd() {
        planIs(0, LOW, WINDY);
        planIs(0, LOW, WINDY, IDLE);
        planIs(0, LOW, WINDY, IDLE, IDLE);
        planIs(1, LOW, WINDY, IDLE, IDLE, IDLE);
        KelpShores x = new KelpShores();
        foretold(x, LOW, WINDY, IDLE, IDLE, IDLE, IDLE);
        x.plan();
        foretold(x, LOW, WINDY, IDLE, IDLE);
        CHECKS.due("days of the plan ahead are none", x.plan(), 0);
    }

    private static void notRainy() {
        planIs(0, LOW, WINDY, RAINY, IDLE, IDLE);
        planIs(0, LOW, WINDY, IDLE, RAINY, IDLE);
        planIs(0, LOW, WINDY, IDLE, IDLE, RAINY);
        planIs(1, LOW, WINDY, IDLE, IDLE, IDLE, RAINY);
        planIs(1, LOW, WINDY, RAINY, IDLE, IDLE, IDLE);
        planIs(1, LOW, WINDY, IDLE, RAINY, IDLE, IDLE, IDLE);
        planIs(1, LOW, WINDY, RAINY, RAINY, IDLE, IDLE, IDLE);
    }

    private static void nextTwoDays() {
        planIs(2, LOW, WINDY, IDLE, LOW, WINDY, IDLE, IDLE, IDLE);
        planIs(2, LOW, LOW, WINDY, WINDY, WINDY, IDLE, IDLE);
        planIs(1, LOW, WINDY, IDLE, LOW, WINDY, IDLE, IDLE);
        planIs(1, LOW, WINDY, IDLE, LOW, WINDY, RAINY, IDLE, IDLE);
    }

    private static void everyShortForecast() {
        for (int length = 0; length <= 5; length++) {
            for (int code = 0; code < 1 << (3 * length); code++) {
                int[] days = new int[length];
                for (int i = 0; i < length; i++) {
                    days[i] = code >> (3 * i) & 7;
                }
                planIs(bestByTrying(days, 0, 0, 0), days);
            }
        }
    }

    private static void longForecasts() {
        Random random = new Random(20261116);
        for (int round = 0; round < 400; round++) {
            int[] days = new int[6 + random.nextInt(round % 20 == 0 ? 11 : 7)];
            for (int i = 0; i < days.length; i++) {
                days[i] = random.nextInt(4) | (random.nextInt(6) == 0 ? RAINY : 0);
            }
            planIs(bestByTrying(days, 0, 0, 0), days);
        }
    }

    /** Tries every thing on every day, as the document tells it, with any number of lightings. */
    private static int bestByTrying(int[] days, int day, int wet, int dry) {
        if (day == days.length) {
            return 0;
        }
        int best = bestByTrying(days, day + 1, wet, dry);
        if ((days[day] & LOW) != 0) {
            best = Math.max(best, bestByTrying(days, day + 1, wet + 1, dry));
        }
        if ((days[day] & WINDY) != 0 && (days[day] & RAINY) == 0 && wet > 0) {
            best = Math.max(best, bestByTrying(days, day + 1, wet - 1, dry + 1));
        }
        if (dry > 0 && day + 2 < days.length && ((days[day] | days[day + 1] | days[day + 2]) & RAINY) == 0) {
            best = Math.max(best, dry + bestByTrying(days, day + 1, wet, 0));
        }
        return best;
    }
}
