/** Promise 10: day, and A DAY in "Terms" with its parts (a) to (f). */
final class DaysTest {
    private static final Checks CHECKS = new Checks();
    private static final int FAMILY = 5;

    public static void main(String[] args) {
        CHECKS.sentence("10: A DAY: TODAY", DaysTest::today);
        CHECKS.sentence("10: IllegalArgumentException: a number is none (0 to 9)", DaysTest::numbersThatAreNone);
        CHECKS.sentence("Terms: TODAY is one more, then, in this order", DaysTest::todayIsOneMoreFirst);
        CHECKS.sentence("(a): on the first day of a YEAR", DaysTest::growthOnFirstDays);
        CHECKS.sentence("(a): a quarter of what is missing to ROOM, rounded up", DaysTest::quartersRoundedUp);
        CHECKS.sentence("(a): WEED of each ROCK", DaysTest::eachRockGrows);
        CHECKS.sentence("(a) is ahead of (b)", DaysTest::growthAheadOfTheStorm);
        CHECKS.sentence("(b): DEPTH not above STORM", DaysTest::depthNotAboveStorm);
        CHECKS.sentence("(b): as many as STORM hundredths of its WEED, rounded down", DaysTest::hundredthsRoundedDown);
        CHECKS.sentence("(b): come to its SHORE's CAST weed", DaysTest::castOnItsShore);
        CHECKS.sentence("(c): RAIN of 5 or more", DaysTest::rainThatSpoils);
        CHECKS.sentence("(c): of each FAMILY's DRY a tenth, rounded up, is SPOILT", DaysTest::tenthsRoundedUp);
        CHECKS.sentence("(d): without RAIN", DaysTest::windWithoutRain);
        CHECKS.sentence("(d): as many tenths as WIND, rounded down", DaysTest::tenthsRoundedDown);
        CHECKS.sentence("(d): each four of that are one DRY (what is not a whole four stays WET)",
                DaysTest::wholeFours);
        CHECKS.sentence("(c), (d): of each FAMILY's", DaysTest::eachFamily);
        CHECKS.sentence("(e): with RAIN of 3 or more it is out", DaysTest::rainThatPutsOut);
        CHECKS.sentence("(e): half of its load, rounded down, is DRY again, the rest is LOST",
                DaysTest::halvesRoundedDown);
        CHECKS.sentence("(e): else it has a day less to burn; with none it gives ASH", DaysTest::aDayLess);
        CHECKS.sentence("(e): a fifth of its load, rounded down, and is empty", DaysTest::fifthsRoundedDown);
        CHECKS.sentence("(c) is ahead of (e)", DaysTest::rainAheadOfThePit);
        CHECKS.sentence("(e): each PIT that burns", DaysTest::eachPit);
        CHECKS.sentence("(f): each FAMILY's WORK of the day is none as yet", DaysTest::workIsNoneAsYet);
        CHECKS.sentence("Terms: The TIDE and so on stay as the day's till the next one", DaysTest::theTideStays);
        CHECKS.sentence("Terms: (0 all, at first)", DaysTest::theTideAtFirst);
        CHECKS.close();
    }

    private static void today() {
        KelpShores x = new KelpShores();
        for (int i = 1; i <= 250; i++) {
            CHECKS.due("day", x.day(i % 10, i % 7, i % 3, i % 5), i);
        }
        CHECKS.due("TODAY", x.count(0), 250);
    }

    private static void numbersThatAreNone() {
        KelpShores x = new KelpShores();
        int[] wrong = {-1, 10, Integer.MIN_VALUE, Integer.MAX_VALUE};
        for (int n : wrong) {
            CHECKS.noArgument("tide " + n, () -> x.day(n, 0, 0, 0));
            CHECKS.noArgument("wind " + n, () -> x.day(0, n, 0, 0));
            CHECKS.noArgument("rain " + n, () -> x.day(0, 0, n, 0));
            CHECKS.noArgument("storm " + n, () -> x.day(0, 0, 0, n));
        }
        CHECKS.due("no day has come", x.count(0), 0);
        CHECKS.due("the least of all", x.day(0, 0, 0, 0), 1);
        CHECKS.due("the most of tide", x.day(9, 0, 0, 0), 2);
        CHECKS.due("the most of wind", x.day(0, 9, 0, 0), 3);
        CHECKS.due("the most of rain", x.day(0, 0, 9, 0), 4);
        CHECKS.due("the most of storm", x.day(0, 0, 0, 9), 5);
    }

    private static void todayIsOneMoreFirst() {
        KelpShores x = Scenes.withWeed(FAMILY, 9);
        x.cut(0, 0, FAMILY, 100);
        x.day(0, 0, 0, 0);
        CHECKS.due("day 0 is no day that comes", x.look(0, 0, 0), 900);
        Scenes.days(x, 98);
        CHECKS.due("day 99", x.look(0, 0, 0), 900);
        x.day(0, 0, 0, 0);
        CHECKS.due("day 100", x.look(0, 0, 0), 925);
    }

    private static void growthOnFirstDays() {
        KelpShores x = Scenes.withShores(1);
        x.rock(0, 9, 101);
        x.hands(FAMILY, 20);
        Scenes.tell(x, Scenes.allYear(0, FAMILY, 0));
        x.cut(0, 0, FAMILY, 100);
        int[] weeds = {1, 26, 45, 59};
        for (int year = 0; year < weeds.length; year++) {
            CHECKS.due("on the first day of year " + year, x.look(0, 0, 0), weeds[year]);
            x.day(0, 0, 0, 0);
            CHECKS.due("on the second day of year " + year, x.look(0, 0, 0), weeds[year]);
            Scenes.days(x, 98);
            CHECKS.due("on the last day of year " + year, x.look(0, 0, 0), weeds[year]);
            x.day(0, 0, 0, 0);
        }
    }

    private static void quartersRoundedUp() {
        int[] missing = {0, 1, 3, 4, 5, 7, 8, 9, 99, 100};
        int[] growth = {0, 1, 1, 1, 2, 2, 2, 3, 25, 25};
        for (int i = 0; i < missing.length; i++) {
            KelpShores x = Scenes.withWeed(FAMILY, 9);
            if (missing[i] > 0) {
                x.cut(0, 0, FAMILY, missing[i]);
            }
            Scenes.days(x, 100);
            CHECKS.due("weed, " + missing[i] + " missing", x.look(0, 0, 0), 1000 - missing[i] + growth[i]);
            CHECKS.due("growth, " + missing[i] + " missing", x.look(0, 0, 2), 1000 + growth[i]);
        }
    }

    private static void eachRockGrows() {
        KelpShores x = Scenes.withShores(6);
        for (int i = 0; i < 24; i++) {
            x.rock(i / 4, 0, 100 + i);
        }
        x.day(0, 0, 0, 9);
        Scenes.days(x, 98);
        int[] weed = new int[24];
        for (int i = 0; i < 24; i++) {
            weed[i] = x.look(i / 4, i % 4, 0);
        }
        x.day(0, 0, 0, 0);
        for (int i = 0; i < 24; i++) {
            int missing = 100 + i - weed[i];
            int quarter = missing / 4 + (missing % 4 > 0 ? 1 : 0);
            CHECKS.due("growth of rock " + i, x.look(i / 4, i % 4, 0) - weed[i], quarter);
        }
    }

    private static void growthAheadOfTheStorm() {
        KelpShores x = Scenes.withWeed(FAMILY, 9);
        x.cut(0, 0, FAMILY, 100);
        Scenes.days(x, 99);
        x.day(0, 0, 0, 9);
        CHECKS.due("9 hundredths of 925", x.look(0, 0, 4), 83);
        CHECKS.due("what is left", x.look(0, 0, 0), 842);
        CHECKS.due("all that grew", x.look(0, 0, 2), 1025);
    }

    private static void depthNotAboveStorm() {
        for (int storm = 0; storm <= 9; storm++) {
            KelpShores x = Scenes.withShores(3);
            for (int depth = 0; depth <= 9; depth++) {
                x.rock(depth / 4, depth, 1000);
            }
            x.day(0, 0, 0, storm);
            for (int depth = 0; depth <= 9; depth++) {
                CHECKS.due("depth " + depth + " in a storm of " + storm, x.look(depth / 4, depth % 4, 4),
                        depth > storm ? 0 : 10 * storm);
            }
        }
    }

    private static void hundredthsRoundedDown() {
        int[] rooms = {1, 11, 12, 22, 23, 100, 111, 112, 999, 1000};
        int[] taken = {0, 0, 1, 1, 2, 9, 9, 10, 89, 90};
        KelpShores x = Scenes.withShores(3);
        for (int i = 0; i < rooms.length; i++) {
            x.rock(i / 4, 9, rooms[i]);
        }
        x.day(0, 0, 0, 9);
        for (int i = 0; i < rooms.length; i++) {
            CHECKS.due("9 hundredths of " + rooms[i], x.look(i / 4, i % 4, 4), taken[i]);
            CHECKS.due("left of " + rooms[i], x.look(i / 4, i % 4, 0), rooms[i] - taken[i]);
        }
        KelpShores one = Scenes.withShores(1);
        one.rock(0, 0, 99);
        one.rock(0, 0, 100);
        one.day(0, 0, 0, 1);
        CHECKS.due("1 hundredth of 99", one.look(0, 0, 4), 0);
        CHECKS.due("1 hundredth of 100", one.look(0, 1, 4), 1);
        CHECKS.due("each rock by itself", one.cast(0), 1);
    }

    private static void castOnItsShore() {
        KelpShores x = Scenes.withShores(6);
        for (int shore = 0; shore < 5; shore++) {
            x.rock(shore, 0, 100 * (shore + 1));
            x.rock(shore, 9, 1000);
        }
        x.day(0, 0, 0, 4);
        for (int shore = 0; shore < 5; shore++) {
            CHECKS.due("cast of shore " + shore, x.cast(shore), 4 * (shore + 1));
        }
        CHECKS.due("cast of a shore without rocks", x.cast(5), 0);
        x.day(0, 0, 0, 0);
        CHECKS.due("no storm", x.cast(4), 20);
        x.day(0, 0, 0, 9);
        CHECKS.due("cast adds up", x.cast(0), 4 + 8 + 90);
    }

    private static void rainThatSpoils() {
        for (int rain = 0; rain <= 9; rain++) {
            KelpShores x = Scenes.withDry(FAMILY, 20);
            x.day(0, 0, rain, 0);
            CHECKS.due("spoilt by rain of " + rain, x.has(FAMILY, 4), rain < 5 ? 0 : 2);
            CHECKS.due("dry behind rain of " + rain, x.has(FAMILY, 1), rain < 5 ? 20 : 18);
            CHECKS.due("not lost", x.has(FAMILY, 5), 0);
        }
    }

    private static void tenthsRoundedUp() {
        int[] dry = {0, 1, 2, 9, 10, 11, 19, 20, 21};
        int[] spoilt = {0, 1, 1, 1, 1, 2, 2, 2, 3};
        for (int i = 0; i < dry.length; i++) {
            KelpShores x = Scenes.withDry(FAMILY, dry[i]);
            CHECKS.due("dry", x.has(FAMILY, 1), dry[i]);
            int wet = x.has(FAMILY, 0);
            x.day(0, 9, 5, 0);
            CHECKS.due("spoilt of " + dry[i], x.has(FAMILY, 4), spoilt[i]);
            CHECKS.due("left of " + dry[i], x.has(FAMILY, 1), dry[i] - spoilt[i]);
            CHECKS.due("wet stays", x.has(FAMILY, 0), wet);
        }
        KelpShores twice = Scenes.withDry(FAMILY, 22);
        twice.day(0, 0, 5, 0);
        twice.day(0, 0, 9, 0);
        CHECKS.due("3 of 22 and 2 of 19 in all", twice.has(FAMILY, 4), 5);
    }

    private static KelpShores withWet(int wet) {
        KelpShores x = Scenes.withWeed(FAMILY, 9);
        x.cut(0, 0, FAMILY, wet);
        return x;
    }

    private static void windWithoutRain() {
        for (int rain = 0; rain <= 9; rain++) {
            KelpShores x = withWet(100);
            x.day(0, 9, rain, 0);
            CHECKS.due("wet behind rain of " + rain, x.has(FAMILY, 0), rain == 0 ? 12 : 100);
            CHECKS.due("dry behind rain of " + rain, x.has(FAMILY, 1), rain == 0 ? 22 : 0);
        }
    }

    private static void tenthsRoundedDown() {
        for (int wind = 0; wind <= 9; wind++) {
            KelpShores x = withWet(100);
            x.day(0, wind, 0, 0);
            CHECKS.due("dry by wind of " + wind, x.has(FAMILY, 1), 10 * wind / 4);
        }
        dries(39, 1, 0);
        dries(40, 1, 1);
        dries(79, 1, 1);
        dries(80, 1, 2);
        dries(4, 9, 0);
        dries(5, 9, 1);
        dries(8, 9, 1);
        dries(9, 9, 2);
    }

    private static void dries(int wet, int wind, int dry) {
        KelpShores x = withWet(wet);
        x.day(0, wind, 0, 0);
        CHECKS.due("dry of " + wet + " by wind of " + wind, x.has(FAMILY, 1), dry);
        CHECKS.due("wet of " + wet + " by wind of " + wind, x.has(FAMILY, 0), wet - 4 * dry);
    }

    private static void wholeFours() {
        dries(10, 3, 0);
        dries(10, 4, 1);
        dries(10, 5, 1);
        dries(10, 7, 1);
        dries(10, 8, 2);
        KelpShores x = withWet(57);
        x.day(0, 3, 0, 0);
        CHECKS.due("17 of 57, four fours of them", x.has(FAMILY, 0), 41);
        x.day(0, 1, 0, 0);
        CHECKS.due("4 of 41", x.has(FAMILY, 0), 37);
        x.day(0, 1, 0, 0);
        CHECKS.due("3 of 37 are no four", x.has(FAMILY, 0), 37);
        CHECKS.due("five are dry", x.has(FAMILY, 1), 5);
    }

    private static void eachFamily() {
        KelpShores x = Scenes.withShores(2);
        StringBuilder text = new StringBuilder("rest 0");
        for (int family = 0; family < 8; family++) {
            x.rock(family / 4, 9, 1000);
            x.hands(family, 20);
            text.append(";").append(Scenes.allYear(family / 4, family, 0));
        }
        Scenes.tell(x, text.toString());
        for (int family = 0; family < 8; family++) {
            CHECKS.due("cut", x.cut(family / 4, family % 4, family, 20 + 10 * family), 0);
        }
        x.day(0, 8, 0, 0);
        for (int family = 0; family < 8; family++) {
            CHECKS.due("dry of family " + family, x.has(family, 1), 4 + 2 * family);
            CHECKS.due("wet of family " + family, x.has(family, 0), 4 + 2 * family);
        }
        x.day(0, 0, 5, 0);
        for (int family = 0; family < 8; family++) {
            CHECKS.due("spoilt of family " + family, x.has(family, 4), family <= 3 ? 1 : 2);
        }
    }

    /** A pit with the load burns for so many dry days, then comes the rain. */
    private static KelpShores burning(int load, int dryDays, int rain) {
        KelpShores x = Scenes.withMuchDry(FAMILY, 4);
        x.light(x.pit(FAMILY), load);
        Scenes.days(x, dryDays);
        x.day(0, 0, rain, 0);
        return x;
    }

    private static void rainThatPutsOut() {
        for (int dryDays = 0; dryDays < 3; dryDays++) {
            for (int rain = 0; rain <= 9; rain++) {
                KelpShores x = burning(20, dryDays, rain);
                String when = "behind " + dryDays + " dry days and rain of " + rain;
                CHECKS.due("days left " + when, x.burns(0), rain < 3 ? 2 - dryDays : 0);
                CHECKS.due("lost " + when, x.has(FAMILY, 5), rain < 3 ? 0 : 10);
                CHECKS.due("ash " + when, x.has(FAMILY, 2), rain < 3 && dryDays == 2 ? 4 : 0);
                Scenes.days(x, 3);
                CHECKS.due("ash later " + when, x.has(FAMILY, 2), rain < 3 ? 4 : 0);
            }
        }
    }

    private static void halvesRoundedDown() {
        int[] loads = {20, 21, 22, 23, 51};
        int[] dry = {10, 10, 11, 11, 25};
        int[] lost = {10, 11, 11, 12, 26};
        for (int i = 0; i < loads.length; i++) {
            int had = Scenes.withMuchDry(FAMILY, 4).has(FAMILY, 1);
            KelpShores x = burning(loads[i], 0, 3);
            CHECKS.due("dry again of " + loads[i], x.has(FAMILY, 1), had - loads[i] + dry[i]);
            CHECKS.due("lost of " + loads[i], x.has(FAMILY, 5), lost[i]);
            CHECKS.due("not spoilt", x.has(FAMILY, 4), 0);
            CHECKS.due("empty, to be lit again", x.light(0, 20), true);
            x.day(0, 0, 4, 0);
            CHECKS.due("lost in all", x.has(FAMILY, 5), lost[i] + 10);
        }
    }

    private static void aDayLess() {
        KelpShores x = burning(20, 0, 2);
        CHECKS.due("two days", x.burns(0), 2);
        CHECKS.due("no ash", x.has(FAMILY, 2), 0);
        x.day(0, 0, 0, 0);
        CHECKS.due("one day", x.burns(0), 1);
        CHECKS.due("no ash as yet", x.has(FAMILY, 2), 0);
        x.day(0, 0, 2, 0);
        CHECKS.due("none", x.burns(0), 0);
        CHECKS.due("ash", x.has(FAMILY, 2), 4);
    }

    private static void fifthsRoundedDown() {
        int[] loads = {20, 24, 25, 29, 30, 50, 54, 55};
        int[] ash = {4, 4, 5, 5, 6, 10, 10, 11};
        for (int i = 0; i < loads.length; i++) {
            KelpShores x = burning(loads[i], 2, 0);
            CHECKS.due("ash of " + loads[i], x.has(FAMILY, 2), ash[i]);
            CHECKS.due("empty", x.burns(0), 0);
            CHECKS.due("nothing lost", x.has(FAMILY, 5), 0);
            x.day(0, 0, 9, 0);
            Scenes.days(x, 3);
            CHECKS.due("an empty one gives nothing more", x.has(FAMILY, 2), ash[i]);
            CHECKS.due("an empty one loses nothing", x.has(FAMILY, 5), 0);
            CHECKS.due("lit again", x.light(0, 20), true);
            Scenes.days(x, 3);
            CHECKS.due("ash in all", x.has(FAMILY, 2), ash[i] + 4);
        }
    }

    private static void rainAheadOfThePit() {
        KelpShores x = Scenes.withDry(FAMILY, 22);
        x.light(x.pit(FAMILY), 20);
        x.day(0, 0, 5, 0);
        CHECKS.due("1 of 2 is spoilt ahead of the 10 from the pit", x.has(FAMILY, 1), 11);
        CHECKS.due("a tenth of 2", x.has(FAMILY, 4), 1);
        CHECKS.due("lost", x.has(FAMILY, 5), 10);
    }

    private static void eachPit() {
        KelpShores x = Scenes.withMuchDry(FAMILY, 13);
        for (int pit = 0; pit < 12; pit++) {
            x.pit(pit == 3 ? 0 : FAMILY);
            x.light(pit, 20 + (pit == 3 ? 0 : pit % 2 * 5));
        }
        CHECKS.due("but for another family's", x.count(3), 11);
        x.day(0, 0, 0, 0);
        for (int pit = 0; pit < 12; pit++) {
            CHECKS.due("pit " + pit, x.burns(pit), pit == 3 ? 0 : 2);
        }
        Scenes.days(x, 2);
        CHECKS.due("none burns", x.count(3), 0);
        CHECKS.due("six of 20 and five of 25", x.has(FAMILY, 2), 6 * 4 + 5 * 5);
        CHECKS.due("none of another family", x.has(0, 2), 0);
    }

    private static void workIsNoneAsYet() {
        KelpShores x = Scenes.withWeed(FAMILY, 9);
        x.hands(1, 3);
        Scenes.tell(x, Scenes.allYear(0, FAMILY, 0) + ";" + Scenes.allYear(0, 1, 0));
        x.cut(0, 0, FAMILY, 100);
        x.cut(0, 1, 1, 14);
        CHECKS.due("none is left", x.has(FAMILY, 3), 0);
        CHECKS.due("one is left", x.has(1, 3), 1);
        x.day(0, 0, 0, 0);
        CHECKS.due("all is left", x.has(FAMILY, 3), 100);
        CHECKS.due("all is left of another's", x.has(1, 3), 15);
        CHECKS.due("and can be done", x.cut(0, 2, FAMILY, 100), 0);
    }

    private static void theTideStays() {
        KelpShores x = Scenes.withWeed(FAMILY, 4);
        x.day(5, 0, 0, 0);
        CHECKS.due("the tide is above", x.cut(0, 0, FAMILY, 1), 2);
        CHECKS.noArgument("a wrong day", () -> x.day(0, 0, 0, 10));
        CHECKS.due("the tide stays", x.cut(0, 0, FAMILY, 1), 2);
        x.day(4, 0, 0, 0);
        CHECKS.due("the next tide", x.cut(0, 0, FAMILY, 1), 0);
        CHECKS.due("it stays too", x.cut(0, 1, FAMILY, 1), 0);
    }

    private static void theTideAtFirst() {
        KelpShores x = Scenes.withWeed(FAMILY, 0);
        CHECKS.due("depth 0 on day 0", x.cut(0, 0, FAMILY, 1), 0);
        x.day(1, 0, 0, 0);
        CHECKS.due("depth 0 in a tide of 1", x.cut(0, 1, FAMILY, 1), 2);
    }
}
