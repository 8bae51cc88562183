import java.util.Random;

/** Promises 25 and 26: foretell, plan. */
final class PlanTest {
    private static final Checks CHECKS = new Checks();
    private static final int LOW = 1;
    private static final int WINDY = 2;
    private static final int RAINY = 4;

    public static void main(String[] args) {
        foretellHasAnEnd();
        planForgets();
        plainPlans();
        everyShortForecast();
        longForecasts();
        CHECKS.close();
    }

    private static int foretold(KelpShores x, int... days) {
        int many = 0;
        for (int day : days) {
            many = x.foretell((day & LOW) != 0, (day & WINDY) != 0, (day & RAINY) != 0);
        }
        return many;
    }

    private static void foretellHasAnEnd() {
        KelpShores x = new KelpShores();
        for (int i = 1; i <= 16; i++) {
            CHECKS.due("foretell", foretold(x, i <= 13 ? LOW | WINDY : 0), i);
            CHECKS.due("count(6)", x.count(6), i);
        }
        CHECKS.due("a seventeenth day", foretold(x, LOW | WINDY), KelpShores.NONE);
        CHECKS.due("there are 16", x.count(6), 16);
        CHECKS.due("its plan", x.plan(), 6);
    }

    private static void planForgets() {
        KelpShores x = new KelpShores();
        CHECKS.due("plan of nothing", x.plan(), 0);
        foretold(x, LOW, WINDY, 0, 0, 0);
        CHECKS.due("plan", x.plan(), 1);
        CHECKS.due("nothing is foretold", x.count(6), 0);
        CHECKS.due("plan again", x.plan(), 0);
        CHECKS.due("the first day anew", foretold(x, 0), 1);
        CHECKS.due("old days are gone", foretold(x, 0, 0), 3);
        CHECKS.due("plan of idle days", x.plan(), 0);
    }

    private static void planIs(int due, int... days) {
        KelpShores x = new KelpShores();
        foretold(x, days);
        CHECKS.due("plan of " + java.util.Arrays.toString(days), x.plan(), due);
    }

    private static void plainPlans() {
        planIs(0, LOW, WINDY, 0, 0);
        planIs(1, LOW, WINDY, 0, 0, 0);
        planIs(0, LOW, WINDY, RAINY, 0, 0);
        planIs(0, LOW, WINDY, 0, RAINY, 0);
        planIs(0, LOW, WINDY, 0, 0, RAINY);
        planIs(1, LOW, WINDY, RAINY, RAINY, 0, 0, 0);
        planIs(0, WINDY, LOW, 0, 0, 0);
        planIs(0, LOW, WINDY | RAINY, 0, 0, 0);
        planIs(1, LOW | RAINY, WINDY, 0, 0, 0);
        planIs(0, LOW | WINDY, 0, 0, 0);
        planIs(1, LOW | WINDY, LOW | WINDY, LOW | WINDY, 0, 0);
        planIs(2, LOW, LOW, WINDY, WINDY, WINDY, 0, 0);
        planIs(2, LOW, WINDY, 0, LOW, WINDY, 0, 0, 0);
        planIs(2, LOW, LOW, LOW, WINDY, WINDY, 0, 0, 0);
        planIs(6, 3, 3, 3, 3, 3, 3, 3, 3, 3, 3, 3, 3, 3, 3, 3, 3);
    }

    private static void everyShortForecast() {
        for (int length = 0; length <= 5; length++) {
            for (int code = 0; code < 1 << (3 * length); code++) {
                int[] days = new int[length];
                for (int i = 0; i < length; i++) {
                    days[i] = code >> (3 * i) & 7;
                }
                planIs(bestByTrying(days, 0, 0, 0), days);
            }
        }
    }

    private static void longForecasts() {
        Random random = new Random(20261116);
        for (int round = 0; round < 400; round++) {
            int[] days = new int[6 + random.nextInt(7)];
            for (int i = 0; i < days.length; i++) {
                days[i] = random.nextInt(4) | (random.nextInt(6) == 0 ? RAINY : 0);
            }
            planIs(bestByTrying(days, 0, 0, 0), days);
        }
    }

    /** Tries every thing on every day, as the document tells it, with any number of lightings. */
    private static int bestByTrying(int[] days, int day, int wet, int dry) {
        if (day == days.length) {
            return 0;
        }
        int best = bestByTrying(days, day + 1, wet, dry);
        if ((days[day] & LOW) != 0) {
            best = Math.max(best, bestByTrying(days, day + 1, wet + 1, dry));
        }
        if ((days[day] & WINDY) != 0 && (days[day] & RAINY) == 0 && wet > 0) {
            best = Math.max(best, bestByTrying(days, day + 1, wet - 1, dry + 1));
        }
        if (dry > 0 && day + 2 < days.length && ((days[day] | days[day + 1] | days[day + 2]) & RAINY) == 0) {
            best = Math.max(best, dry + bestByTrying(days, day + 1, wet, 0));
        }
        return best;
    }
}
