/** Promises 11, 12 and 16: cut, gather, owes; with TO CUT, TO GATHER and what is OWED in "Terms". */
final class CuttingTest {
    private static final Checks CHECKS = new Checks();
    private static final int FAMILY = 2;

    public static void main(String[] args) {
        CHECKS.sentence("11: A FAMILY CUTS: 0", CuttingTest::withNothingAgainst);
        CHECKS.sentence("11: or what is AGAINST it: the first that holds", CuttingTest::theFirstThatHolds);
        CHECKS.sentence("TO CUT: 1 it has no RIGHT on the SHORE TODAY", CuttingTest::noRight);
        CHECKS.sentence("TO CUT: 2 the TIDE is above DEPTH", CuttingTest::tideAboveDepth);
        CHECKS.sentence("TO CUT: 3 it was cut in this YEAR", CuttingTest::cutInThisYear);
        CHECKS.sentence("TO CUT: 3 or one of the REST YEARS ahead", CuttingTest::restYears);
        CHECKS.sentence("TO CUT: 3 (REST as the RIGHTS tell)", CuttingTest::restAsTheRightsTell);
        CHECKS.sentence("TO CUT: 4 there are not n", CuttingTest::notSoMany);
        CHECKS.sentence("TO CUT: 5 its WORK is not enough: 5 a HAND a day", CuttingTest::fiveAHand);
        CHECKS.sentence("TO CUT: for all that it cuts and gathers together", CuttingTest::workForBoth);
        CHECKS.sentence("TO CUT: Two cuttings of a ROCK on the same day by one FAMILY count as one",
                CuttingTest::twoCuttings);
        CHECKS.sentence("TO CUT: 3 is not asked then (but the others are)", CuttingTest::othersAreAskedThen);
        CHECKS.sentence("11: what is AGAINST it leaves all", CuttingTest::againstLeavesAll);
        CHECKS.sentence("11: IllegalArgumentException: n is none (1 to 1000)", CuttingTest::amountsToCut);
        CHECKS.sentence("12: A FAMILY GATHERS: 0", CuttingTest::gatheringWithNothingAgainst);
        CHECKS.sentence("12: or what is AGAINST it: 1, 4, 5, the first that holds", CuttingTest::firstAgainstGathering);
        CHECKS.sentence("TO GATHER n of the CAST weed: 1, 4, 5 alone", CuttingTest::neitherTideNorRest);
        CHECKS.sentence("TO GATHER: there are not n, its WORK is not enough", CuttingTest::gatheringAtItsBounds);
        CHECKS.sentence("12: IllegalArgumentException: n is not 1 to 1000", CuttingTest::amountsToGather);
        CHECKS.sentence("OWED: the SHARE of a hundred of it, rounded down", CuttingTest::sharesRoundedDown);
        CHECKS.sentence("OWED: the first PART that tells the RIGHT", CuttingTest::theFirstPart);
        CHECKS.sentence("OWED: in a row of the YEAR, the SHORE and the FAMILY", CuttingTest::rowsOfTheOwed);
        CHECKS.sentence("16: (0 to 99; 0 of another one)", CuttingTest::anotherYear);
        CHECKS.close();
    }

    private static void withNothingAgainst() {
        KelpShores x = Scenes.withWeed(FAMILY, 9);
        CHECKS.due("cut", x.cut(0, 2, FAMILY, 37), 0);
        CHECKS.due("weed", x.look(0, 2, 0), 963);
        CHECKS.due("the year", x.look(0, 2, 1), 0);
        CHECKS.due("all that was cut", x.look(0, 2, 3), 37);
        CHECKS.due("no storm took it", x.look(0, 2, 4), 0);
        CHECKS.due("wet", x.has(FAMILY, 0), 37);
        CHECKS.due("work left", x.has(FAMILY, 3), 63);
        CHECKS.due("no cast", x.cast(0), 0);
        CHECKS.due("another rock", x.look(0, 1, 0), 1000);
        CHECKS.due("another family", x.has(FAMILY + 1, 0), 0);
    }

    /** All 32 choices of what holds: the least number of those is the answer. */
    private static void theFirstThatHolds() {
        for (int holds = 0; holds < 32; holds++) {
            KelpShores x = Scenes.withShores(1);
            x.rock(0, 3, 20);
            Scenes.tell(x, Scenes.allYear(0, 1, 0));
            if ((holds & 4) != 0) {
                x.cut(0, 0, 1, 1);
            }
            x.day((holds & 2) != 0 ? 4 : 3, 0, 0, 0);
            Scenes.tell(x, (holds & 1) != 0 ? "rest 2" : Scenes.allYear(0, 0, 0));
            x.hands(0, (holds & 16) != 0 ? 1 : 20);
            int n = (holds & 8) != 0 ? 21 : 10;
            int weed = x.look(0, 0, 0);
            CHECKS.due("with " + Integer.toBinaryString(holds), x.cut(0, 0, 0, n),
                    holds == 0 ? 0 : Integer.numberOfTrailingZeros(holds) + 1);
            CHECKS.due("weed with " + Integer.toBinaryString(holds), x.look(0, 0, 0), holds == 0 ? weed - n : weed);
        }
    }

    private static void noRight() {
        KelpShores x = Scenes.withShores(2);
        for (int shore = 0; shore < 2; shore++) {
            for (int rock = 0; rock < 4; rock++) {
                x.rock(shore, 9, 100);
            }
        }
        Scenes.tell(x, Scenes.right(0, FAMILY, 2, 3, 0) + "; rest 0");
        int[] due = {1, 1, 0, 0, 1};
        for (int day = 0; day < due.length; day++) {
            CHECKS.due("day " + day, x.cut(0, Math.max(0, day - 2) % 4, FAMILY, 1), due[day]);
            CHECKS.due("another shore, day " + day, x.cut(1, 0, FAMILY, 1), 1);
            CHECKS.due("another family, day " + day, x.cut(0, 3, FAMILY + 1, 1), 1);
            x.day(0, 0, 0, 0);
        }
        Scenes.days(x, 96);
        CHECKS.due("day 101", x.cut(0, 0, FAMILY, 1), 1);
        x.day(0, 0, 0, 0);
        CHECKS.due("day 102", x.cut(0, 0, FAMILY, 1), 0);
        x.day(0, 0, 0, 0);
        CHECKS.due("day 103", x.cut(0, 1, FAMILY, 1), 0);
        x.day(0, 0, 0, 0);
        CHECKS.due("day 104", x.cut(0, 2, FAMILY, 1), 1);
    }

    private static void tideAboveDepth() {
        for (int depth = 0; depth <= 9; depth++) {
            for (int tide = 0; tide <= 9; tide++) {
                KelpShores x = Scenes.withWeed(FAMILY, depth);
                x.day(tide, 0, 0, 0);
                CHECKS.due("tide " + tide + ", depth " + depth, x.cut(0, 0, FAMILY, 1), tide > depth ? 2 : 0);
            }
        }
    }

    private static void cutInThisYear() {
        KelpShores x = Scenes.withWeed(FAMILY, 9);
        CHECKS.due("on day 0", x.cut(0, 0, FAMILY, 1), 0);
        x.day(0, 0, 0, 0);
        CHECKS.due("on day 1", x.cut(0, 0, FAMILY, 1), 3);
        CHECKS.due("another rock on day 1", x.cut(0, 1, FAMILY, 1), 0);
        Scenes.days(x, 98);
        CHECKS.due("on day 99", x.cut(0, 0, FAMILY, 1), 3);
        x.day(0, 0, 0, 0);
        CHECKS.due("on day 100, with no rest", x.cut(0, 0, FAMILY, 1), 0);
        CHECKS.due("the year of the latest cutting", x.look(0, 0, 1), 1);
        Scenes.days(x, 99);
        CHECKS.due("on day 199", x.cut(0, 0, FAMILY, 1), 3);
        x.day(0, 0, 0, 0);
        CHECKS.due("on day 200", x.cut(0, 0, FAMILY, 1), 0);
    }

    private static void restYears() {
        for (int rest = 0; rest <= 3; rest++) {
            KelpShores x = Scenes.withWeed(FAMILY, 9);
            Scenes.tell(x, Scenes.allYear(0, FAMILY, 0) + "; rest " + rest);
            Scenes.days(x, 99);
            CHECKS.due("on the last day of year 0", x.cut(0, 0, FAMILY, 1), 0);
            for (int year = 1; year <= rest; year++) {
                x.day(0, 0, 0, 0);
                CHECKS.due("rest " + rest + ", first day of year " + year, x.cut(0, 0, FAMILY, 1), 3);
                Scenes.days(x, 99);
                CHECKS.due("rest " + rest + ", last day of year " + year, x.cut(0, 0, FAMILY, 1), 3);
            }
            CHECKS.due("no refused cutting counts", x.look(0, 0, 1), 0);
            x.day(0, 0, 0, 0);
            CHECKS.due("rest " + rest + " is over", x.cut(0, 0, FAMILY, 1), 0);
            CHECKS.due("the year of the latest cutting", x.look(0, 0, 1), rest + 1);
        }
    }

    private static void restAsTheRightsTell() {
        KelpShores x = Scenes.withWeed(FAMILY, 9);
        x.cut(0, 0, FAMILY, 1);
        Scenes.days(x, 200);
        Scenes.tell(x, Scenes.allYear(0, FAMILY, 0));
        CHECKS.due("two years, as at first", x.cut(0, 0, FAMILY, 1), 3);
        Scenes.tell(x, Scenes.allYear(0, FAMILY, 0) + "; rest 20");
        CHECKS.due("twenty years", x.cut(0, 0, FAMILY, 1), 3);
        CHECKS.due("a rock that was never cut", x.cut(0, 1, FAMILY, 1), 0);
        Scenes.tell(x, "rest 1;" + Scenes.allYear(0, FAMILY, 0));
        CHECKS.due("one year", x.cut(0, 0, FAMILY, 1), 0);
    }

    private static void notSoMany() {
        KelpShores x = Scenes.withShores(1);
        x.rock(0, 9, 30);
        x.hands(FAMILY, 20);
        Scenes.tell(x, Scenes.allYear(0, FAMILY, 0));
        CHECKS.due("31 of 30", x.cut(0, 0, FAMILY, 31), 4);
        CHECKS.due("29 of 30", x.cut(0, 0, FAMILY, 29), 0);
        CHECKS.due("2 of 1", x.cut(0, 0, FAMILY, 2), 4);
        CHECKS.due("1 of 1", x.cut(0, 0, FAMILY, 1), 0);
        CHECKS.due("1 of none", x.cut(0, 0, FAMILY, 1), 4);
        CHECKS.due("none is left", x.look(0, 0, 0), 0);
    }

    private static void fiveAHand() {
        for (int hands = 0; hands <= 20; hands++) {
            KelpShores x = Scenes.withWeed(FAMILY, 9);
            x.hands(FAMILY, hands);
            CHECKS.due(hands + " hands, one too many", x.cut(0, 0, FAMILY, 5 * hands + 1), 5);
            if (hands > 0) {
                CHECKS.due(hands + " hands, just so many", x.cut(0, 0, FAMILY, 5 * hands), 0);
            }
            CHECKS.due(hands + " hands, no work is left", x.cut(0, 0, FAMILY, 1), 5);
        }
    }

    private static void workForBoth() {
        KelpShores x = Scenes.withWeed(FAMILY, 0);
        x.hands(FAMILY, 4);
        x.day(0, 0, 0, 9);
        CHECKS.due("gather 12", x.gather(0, FAMILY, 12), 0);
        CHECKS.due("cut 9", x.cut(0, 0, FAMILY, 9), 5);
        CHECKS.due("cut 8", x.cut(0, 0, FAMILY, 8), 0);
        CHECKS.due("gather 1", x.gather(0, FAMILY, 1), 5);
        x.hands(FAMILY, 5);
        CHECKS.due("more hands", x.has(FAMILY, 3), 5);
        CHECKS.due("gather 6", x.gather(0, FAMILY, 6), 5);
        CHECKS.due("cut 4", x.cut(0, 1, FAMILY, 4), 0);
        CHECKS.due("gather 2", x.gather(0, FAMILY, 2), 5);
        CHECKS.due("gather 1 then", x.gather(0, FAMILY, 1), 0);
        x.hands(FAMILY, 1);
        CHECKS.due("fewer hands than work", x.has(FAMILY, 3), 0);
        CHECKS.due("no work for fewer hands", x.gather(0, FAMILY, 1), 5);
    }

    private static KelpShores withTwoFamilies() {
        KelpShores x = Scenes.withWeed(FAMILY, 5);
        Scenes.tell(x, Scenes.allYear(0, FAMILY, 25) + ";" + Scenes.allYear(0, FAMILY + 1, 0));
        return x;
    }

    private static void twoCuttings() {
        KelpShores x = withTwoFamilies();
        CHECKS.due("the first", x.cut(0, 0, FAMILY, 10), 0);
        CHECKS.due("the second", x.cut(0, 0, FAMILY, 10), 0);
        CHECKS.due("of each its share: 2 of 2.5", x.owes(FAMILY, 0, 0), 4);
        CHECKS.due("another family", x.cut(0, 0, FAMILY + 1, 1), 3);
        CHECKS.due("another family's rock", x.cut(0, 1, FAMILY + 1, 1), 0);
        CHECKS.due("not on another family's", x.cut(0, 1, FAMILY, 1), 3);
        CHECKS.due("still the first family's", x.cut(0, 0, FAMILY, 1), 0);
        CHECKS.due("another rock between", x.cut(0, 2, FAMILY, 1), 0);
        CHECKS.due("and the first one again", x.cut(0, 0, FAMILY, 1), 0);
        CHECKS.due("all that was cut", x.look(0, 0, 3), 22);
        x.day(0, 0, 0, 0);
        CHECKS.due("not on the next day", x.cut(0, 0, FAMILY, 1), 3);
        Scenes.days(x, 99);
        CHECKS.due("nor a hundred days later", x.cut(0, 0, FAMILY, 1), 3);
    }

    private static void othersAreAskedThen() {
        KelpShores x = withTwoFamilies();
        x.cut(0, 0, FAMILY, 80);
        CHECKS.due("not so many", x.cut(0, 0, FAMILY, 921), 4);
        CHECKS.due("not enough work", x.cut(0, 0, FAMILY, 21), 5);
        Scenes.tell(x, Scenes.allYear(0, FAMILY + 1, 0));
        CHECKS.due("no right any more", x.cut(0, 0, FAMILY, 1), 1);
        Scenes.tell(x, Scenes.allYear(0, FAMILY, 0) + "; rest 20");
        CHECKS.due("a right again", x.cut(0, 0, FAMILY, 20), 0);
    }

    private static void againstLeavesAll() {
        InUse.isLeftBy(CHECKS, "1 against cutting", x -> x.cut(0, 1, 2, 1));
        InUse.isLeftBy(CHECKS, "2 against cutting", x -> x.cut(0, 0, 6, 1));
        InUse.isLeftBy(CHECKS, "3 against cutting", x -> x.day(0, 0, 0, 0), x -> x.cut(0, 1, 6, 1));
        InUse.isLeftBy(CHECKS, "4 against cutting", x -> x.cut(0, 1, 6, 1000));
        InUse.isLeftBy(CHECKS, "5 against cutting", x -> x.cut(0, 1, 6, 61));
        InUse.isLeftBy(CHECKS, "1 against gathering", x -> x.gather(0, 2, 1));
        InUse.isLeftBy(CHECKS, "4 against gathering", x -> x.gather(0, 6, 1000));
        InUse.isLeftBy(CHECKS, "5 against gathering", x -> x.gather(0, 6, 61));
        KelpShores x = InUse.made();
        int[] due = {1, 2, 4, 5, 1, 4, 5};
        int[] got = {x.cut(0, 1, 2, 1), x.cut(0, 0, 6, 1), x.cut(0, 1, 6, 1000), x.cut(0, 1, 6, 61),
            x.gather(0, 2, 1), x.gather(0, 6, 1000), x.gather(0, 6, 61)};
        for (int i = 0; i < due.length; i++) {
            CHECKS.due("what is against the call " + i, got[i], due[i]);
        }
    }

    private static void amountsToCut() {
        KelpShores x = Scenes.withWeed(FAMILY, 9);
        int[] wrong = {0, -1, 1001, Integer.MAX_VALUE, Integer.MIN_VALUE};
        for (int n : wrong) {
            CHECKS.noArgument("cut " + n, () -> x.cut(0, 0, FAMILY, n));
            CHECKS.noArgument("cut " + n + " without a right", () -> x.cut(0, 0, FAMILY + 1, n));
        }
        CHECKS.due("cut 1", x.cut(0, 0, FAMILY, 1), 0);
        CHECKS.due("cut 1000 of 1000", x.cut(0, 1, FAMILY, 1000), 5);
        CHECKS.due("cut 1000 of 999", x.cut(0, 0, FAMILY, 1000), 4);
    }

    /** A shore that has 30 cast up, on a day with a tide of 9. */
    private static KelpShores withCast() {
        KelpShores x = Scenes.withShores(2);
        x.rock(0, 0, 1000);
        x.rock(1, 0, 1000);
        x.day(9, 0, 0, 3);
        return x;
    }

    private static void gatheringWithNothingAgainst() {
        KelpShores x = withCast();
        Scenes.tell(x, Scenes.allYear(0, FAMILY, 10));
        CHECKS.due("gather", x.gather(0, FAMILY, 20), 0);
        CHECKS.due("cast", x.cast(0), 10);
        CHECKS.due("cast of another shore", x.cast(1), 30);
        CHECKS.due("wet", x.has(FAMILY, 0), 20);
        CHECKS.due("work", x.has(FAMILY, 3), 0);
        CHECKS.due("owed", x.owes(FAMILY, 0, 0), 2);
        CHECKS.due("no cutting", x.look(0, 0, 1), KelpShores.NONE);
        CHECKS.due("nothing cut", x.look(0, 0, 3), 0);
        CHECKS.due("weed", x.look(0, 0, 0), 970);
    }

    private static void firstAgainstGathering() {
        int[] due = {0, 1, 4, 1, 5, 1, 4, 1};
        for (int holds = 0; holds < 8; holds++) {
            KelpShores x = withCast();
            Scenes.tell(x, (holds & 1) != 0 ? Scenes.allYear(1, FAMILY, 0) : Scenes.allYear(0, FAMILY, 0));
            x.hands(FAMILY, (holds & 4) != 0 ? 5 : 20);
            int n = (holds & 2) != 0 ? 31 : 30;
            CHECKS.due("with " + Integer.toBinaryString(holds), x.gather(0, FAMILY, n), due[holds]);
            CHECKS.due("cast with " + Integer.toBinaryString(holds), x.cast(0), holds == 0 ? 0 : 30);
        }
    }

    private static void neitherTideNorRest() {
        KelpShores x = withCast();
        x.hands(FAMILY, 20);
        Scenes.tell(x, Scenes.allYear(0, FAMILY, 0) + "; rest 20");
        x.day(0, 0, 0, 0);
        CHECKS.due("cut", x.cut(0, 0, FAMILY, 1), 0);
        x.day(9, 0, 0, 0);
        CHECKS.due("the rock cannot be cut", x.cut(0, 0, FAMILY, 1), 2);
        CHECKS.due("gather in the tide", x.gather(0, FAMILY, 10), 0);
        x.day(0, 0, 0, 0);
        CHECKS.due("the rock rests", x.cut(0, 0, FAMILY, 1), 3);
        CHECKS.due("gather what it gave", x.gather(0, FAMILY, 10), 0);
    }

    private static void gatheringAtItsBounds() {
        KelpShores x = withCast();
        Scenes.tell(x, Scenes.right(0, FAMILY, 1, 2, 0));
        CHECKS.due("31 of 30", x.gather(0, FAMILY, 31), 4);
        CHECKS.due("30 with work for 20", x.gather(0, FAMILY, 30), 5);
        CHECKS.due("21 with work for 20", x.gather(0, FAMILY, 21), 5);
        CHECKS.due("20 with work for 20", x.gather(0, FAMILY, 20), 0);
        x.day(0, 0, 0, 0);
        CHECKS.due("11 of 10", x.gather(0, FAMILY, 11), 4);
        CHECKS.due("10 of 10", x.gather(0, FAMILY, 10), 0);
        CHECKS.due("1 of none", x.gather(0, FAMILY, 1), 4);
        x.day(0, 0, 0, 9);
        CHECKS.due("day 3, without a right", x.gather(0, FAMILY, 1), 1);
        Scenes.days(x, 98);
        CHECKS.due("day 101, with one", x.gather(0, FAMILY, 1), 0);
    }

    private static void amountsToGather() {
        KelpShores x = withCast();
        Scenes.tell(x, Scenes.allYear(0, FAMILY, 0));
        int[] wrong = {0, -1, 1001, Integer.MAX_VALUE, Integer.MIN_VALUE};
        for (int n : wrong) {
            CHECKS.noArgument("gather " + n, () -> x.gather(0, FAMILY, n));
            CHECKS.noArgument("gather " + n + " without a right", () -> x.gather(0, FAMILY + 1, n));
        }
        CHECKS.due("gather 1", x.gather(0, FAMILY, 1), 0);
        CHECKS.due("gather 1000 of 29", x.gather(0, FAMILY, 1000), 4);
        CHECKS.due("gather 1000 without a right", x.gather(0, FAMILY + 1, 1000), 1);
    }

    private static void sharesRoundedDown() {
        int[][] due = {{100, 0, 0}, {1, 99, 0}, {1, 100, 1}, {99, 1, 0}, {100, 1, 1}, {3, 33, 0}, {4, 25, 1},
            {7, 25, 1}, {8, 25, 2}, {20, 33, 6}, {100, 99, 99}, {100, 100, 100}, {50, 3, 1}, {67, 3, 2}};
        for (int[] each : due) {
            KelpShores x = Scenes.withWeed(FAMILY, 0);
            x.day(0, 0, 0, 9);
            Scenes.tell(x, Scenes.allYear(0, FAMILY, each[1]));
            x.cut(0, 0, FAMILY, each[0]);
            CHECKS.due(each[1] + " of a hundred of " + each[0], x.owes(FAMILY, 0, 0), each[2]);
            x.day(0, 0, 0, 0);
            x.gather(0, FAMILY, each[0]);
            CHECKS.due("and gathered as many", x.owes(FAMILY, 0, 0), 2 * each[2]);
            CHECKS.due("all is the family's still", x.has(FAMILY, 0), 2 * each[0]);
        }
    }

    private static void theFirstPart() {
        KelpShores x = Scenes.withShores(2);
        x.rock(0, 0, 1000);
        x.rock(1, 0, 1000);
        x.hands(FAMILY, 20);
        Scenes.tell(x, "rest 0;" + Scenes.right(0, FAMILY, 50, 99, 1) + ";" + Scenes.allYear(1, FAMILY, 100) + ";"
                + Scenes.allYear(0, FAMILY + 1, 70) + ";" + Scenes.allYear(0, FAMILY, 33) + ";"
                + Scenes.allYear(0, FAMILY, 90));
        CHECKS.due("cut 20 on day 0", x.cut(0, 0, FAMILY, 20), 0);
        CHECKS.due("by the first part for that day", x.owes(FAMILY, 0, 0), 6);
        CHECKS.due("cut 7 of the other shore", x.cut(1, 0, FAMILY, 7), 0);
        CHECKS.due("by its own part", x.owes(FAMILY, 1, 0), 7);
        Scenes.days(x, 150);
        CHECKS.due("cut 100 on day 150", x.cut(0, 0, FAMILY, 100), 0);
        CHECKS.due("by the first part of all", x.owes(FAMILY, 0, 1), 1);
        x.day(0, 0, 0, 9);
        CHECKS.due("gather 50 on day 151", x.gather(1, FAMILY, 50), 0);
        CHECKS.due("by its shore's part", x.owes(FAMILY, 1, 1), 50);
        Scenes.days(x, 49);
        CHECKS.due("gather 10 on day 200", x.gather(0, FAMILY, 10), 0);
        CHECKS.due("by the first part for that day again", x.owes(FAMILY, 0, 2), 3);
    }

    private static void rowsOfTheOwed() {
        KelpShores x = Scenes.withShores(2);
        for (int rock = 0; rock < 4; rock++) {
            x.rock(rock / 2, 9, 1000);
        }
        Scenes.tell(x, Scenes.allYear(0, 0, 100) + ";" + Scenes.allYear(1, 0, 100) + ";" + Scenes.allYear(0, 7, 100)
                + ";" + Scenes.allYear(1, 7, 100) + "; rest 0");
        Scenes.days(x, 99);
        cutFour(x, 1);
        x.day(0, 0, 0, 0);
        cutFour(x, 2);
        for (int year = 0; year < 2; year++) {
            int times = year + 1;
            CHECKS.due("family 0, shore 0, year " + year, x.owes(0, 0, year), times);
            CHECKS.due("family 7, shore 0, year " + year, x.owes(7, 0, year), 2 * times);
            CHECKS.due("family 0, shore 1, year " + year, x.owes(0, 1, year), 3 * times);
            CHECKS.due("family 7, shore 1, year " + year, x.owes(7, 1, year), 4 * times);
            CHECKS.due("family 1", x.owes(1, 0, year), 0);
        }
        CHECKS.due("year 2", x.owes(0, 0, 2), 0);
    }

    private static void cutFour(KelpShores x, int times) {
        x.cut(0, 0, 0, times);
        x.cut(0, 1, 7, 2 * times);
        x.cut(1, 0, 0, 3 * times);
        x.cut(1, 1, 7, 4 * times);
    }

    private static void anotherYear() {
        KelpShores x = Scenes.withShores(6);
        StringBuilder text = new StringBuilder("rest 0");
        for (int shore = 0; shore < 6; shore++) {
            x.rock(shore, 9, 100);
            text.append(";").append(Scenes.allYear(shore, 7, 100));
        }
        Scenes.tell(x, text.toString());
        for (int shore = 0; shore < 6; shore++) {
            x.cut(shore, 0, 7, 1);
        }
        for (int shore = 0; shore < 6; shore++) {
            CHECKS.due("year 0", x.owes(7, shore, 0), 1);
            int[] others = {-1, 1, 99, 100, 101, Integer.MIN_VALUE, Integer.MAX_VALUE};
            for (int year : others) {
                CHECKS.due("year " + year, x.owes(7, shore, year), 0);
            }
        }
    }
}
