/** Promises 7 to 9: rights, fault, may; and what counts 7 and 8 tell of a text. */
final class RightsTest {
    private static final Checks CHECKS = new Checks();
    private static final String WHOLE = "shore 0 family 7 from 9 to 9 share 0";

    public static void main(String[] args) {
        rightTexts();
        wrongTexts();
        numbersAtTheirBounds();
        everyTextTellsAllAnew();
        wrongTextLeavesAll();
        theTapeIsUsedUp();
        mayByDays();
        manyParts();
        CHECKS.close();
    }

    private static void isRight(String text, int parts, int withRights, int rest) {
        KelpShores x = Checks.withShores(2);
        CHECKS.due("parts of '" + text + "'", Checks.thrownBy(() -> Checks.tell(x, text)) == null, true);
        CHECKS.due("fault of '" + text + "'", x.fault(), KelpShores.NONE);
        CHECKS.due("rights of '" + text + "'", x.count(8), withRights);
        CHECKS.due("rest of '" + text + "'", x.count(7), rest);
        KelpShores again = Checks.withShores(2);
        if (x.fault() == KelpShores.NONE) {
            CHECKS.due("answer to '" + text + "'", Checks.tell(again, text), parts);
        }
    }

    private static void isWrong(String text, int place) {
        KelpShores x = Checks.withShores(2);
        CHECKS.noArgument("rights of '" + text + "'", () -> Checks.tell(x, text));
        CHECKS.due("fault of '" + text + "'", x.fault(), place);
    }

    private static void rightTexts() {
        isRight("rest 0", 1, 0, 0);
        isRight("rest020", 1, 0, 20);
        isRight("  rest   7  ", 1, 0, 7);
        isRight("rest 3;rest 4", 2, 0, 4);
        isRight("rest 4 ; rest 3;rest1 ", 3, 0, 1);
        isRight(WHOLE, 1, 1, 2);
        isRight(" " + WHOLE + " ; rest 9 ;" + WHOLE, 3, 2, 9);
        isRight("shore0family0from0to0share0", 1, 1, 2);
        isRight("shore001family007from099to099share100", 1, 1, 2);
    }

    private static void wrongTexts() {
        isWrong("", 0);
        isWrong("   ", 3);
        isWrong(";", 0);
        isWrong(" ;rest 1", 1);
        isWrong("rest", 4);
        isWrong("rest  ", 6);
        isWrong("rest;", 4);
        isWrong("rest x", 5);
        isWrong("rest -1", 5);
        isWrong("restx 1", 0);
        isWrong("resting 1", 0);
        isWrong("res 1", 0);
        isWrong("res", 0);
        isWrong("res t 1", 0);
        isWrong("Rest 1", 0);
        isWrong("rEst 1", 0);
        isWrong("rest\t1", 4);
        isWrong("rest 1\n", 6);
        isWrong("rest 1\0", 6);
        isWrong("rest 1,", 6);
        isWrong("rest 1 2", 7);
        isWrong("rest 1 rest 2", 7);
        isWrong("rest 1rest 2", 6);
        isWrong("rest 1;", 7);
        isWrong("rest 1; ", 8);
        isWrong("rest 1;;rest 1", 7);
        isWrong("rest 1;x", 7);
        isWrong("rest 1; family 1", 8);
        isWrong("7", 0);
        isWrong("shore", 5);
        isWrong("shores 0", 0);
        isWrong("shore family", 6);
        isWrong("shore 0", 7);
        isWrong("shore 0 ", 8);
        isWrong("shore 0;", 7);
        isWrong("shore 0 1", 8);
        isWrong("shore 0 from", 8);
        isWrong("shore 0 familyx", 8);
        isWrong("shore 0 famil", 8);
        isWrong("shore 0 family", 14);
        isWrong("shore 0 family 7 to", 17);
        isWrong("shore 0 family 7 from", 21);
        isWrong("shore 0 family 7 from 9", 23);
        isWrong("shore 0 family 7 from 9 share", 24);
        isWrong("shore 0 family 7 from 9 too 9", 24);
        isWrong("shore 0 family 7 from 9 to 9", 28);
        isWrong("shore 0 family 7 from 9 to 9;", 28);
        isWrong("shore 0 family 7 from 9 to 9 share", 34);
        isWrong("shore 0 family 7 from 9 to 9 shared 1", 29);
        isWrong(WHOLE + ";", 37);
        isWrong(WHOLE + " x", 37);
        isWrong(WHOLE + "rest 1", 36);
        isWrong("shore 9 family 9", 6);
    }

    private static void numbersAtTheirBounds() {
        isWrong("rest 21", 5);
        isWrong("rest 999", 5);
        isWrong("rest 1000", 5);
        isWrong("rest 0001", 5);
        isWrong("rest  0000000000000000000000001", 6);
        isWrong("shore 2", 6);
        isWrong("shore 0001 family 1", 6);
        isRight("shore 1 family 7 from 0 to 99 share 100", 1, 1, 2);
        isWrong("shore 1 family 8 from 0 to 99 share 100", 15);
        isWrong("shore 1 family 7 from 100 to 99 share 100", 22);
        isWrong("shore 1 family 7 from 0 to 100 share 100", 27);
        isWrong("shore 1 family 7 from 10 to 9 share 100", 28);
        isRight("shore 1 family 7 from 10 to 10 share 100", 1, 1, 2);
        isWrong("shore 1 family 7 from 0 to 99 share 101", 36);
        KelpShores none = new KelpShores();
        CHECKS.noArgument("a right where no shore is", () -> Checks.tell(none, WHOLE));
        CHECKS.due("fault where no shore is", none.fault(), 6);
    }

    private static void everyTextTellsAllAnew() {
        KelpShores x = Checks.withShores(1);
        Checks.tell(x, WHOLE + ";rest 5");
        CHECKS.due("rest", x.count(7), 5);
        Checks.tell(x, "rest 6");
        CHECKS.due("no rights told", x.count(8), 0);
        CHECKS.due("no right left", x.may(0, 7, 9), false);
        CHECKS.due("another rest", x.count(7), 6);
        Checks.tell(x, "shore 0 family 1 from 2 to 3 share 4");
        CHECKS.due("rest as at first", x.count(7), 2);
        CHECKS.due("a new right", x.may(0, 1, 2), true);
        CHECKS.due("none of the first text", x.may(0, 7, 9), false);
        CHECKS.due("one right alone", x.count(8), 1);
    }

    private static void wrongTextLeavesAll() {
        KelpShores x = Checks.withShores(1);
        Checks.tell(x, WHOLE + ";rest 5");
        CHECKS.noArgument("a wrong end", () -> Checks.tell(x, "rest 7; shore 0 family 1 from 1 to 1 share 1; x"));
        CHECKS.due("fault", x.fault(), 46);
        CHECKS.due("rest stays", x.count(7), 5);
        CHECKS.due("rights stay", x.count(8), 1);
        CHECKS.due("the right stays", x.may(0, 7, 9), true);
        CHECKS.due("none comes", x.may(0, 1, 1), false);
        Checks.tell(x, "rest 1");
        CHECKS.due("fault is of the latest", x.fault(), KelpShores.NONE);
    }

    private static void theTapeIsUsedUp() {
        KelpShores x = Checks.withShores(1);
        Checks.tell(x, WHOLE);
        CHECKS.due("used up by a right text", x.end(1), false);
        CHECKS.noArgument("a wrong text", () -> Checks.tell(x, "rust 1"));
        CHECKS.due("used up by a wrong text", x.end(1), false);
        CHECKS.noArgument("an empty text", x::rights);
        CHECKS.due("fault of the empty text", x.fault(), 0);
        CHECKS.due("feed begins anew", x.feed(0, 0, 0, 0, 0), 20);
        CHECKS.due("fault stays till the next rights()", x.fault(), 0);
    }

    private static void mayByDays() {
        KelpShores x = Checks.withShores(2);
        Checks.tell(x, "shore 1 family 3 from 10 to 20 share 5; shore 1 family 3 from 30 to 30 share 6;"
                + "shore 0 family 0 from 0 to 99 share 0");
        int[] yes = {10, 15, 20, 30};
        int[] no = {9, 21, 29, 31, -1, 0, 99, 100, 110, 115, Integer.MAX_VALUE, Integer.MIN_VALUE};
        for (int day : yes) {
            CHECKS.due("may(1, 3, " + day + ")", x.may(1, 3, day), true);
            CHECKS.due("may(1, 2, " + day + ")", x.may(1, 2, day), false);
            CHECKS.due("may(0, 3, " + day + ")", x.may(0, 3, day), false);
        }
        for (int day : no) {
            CHECKS.due("may(1, 3, " + day + ")", x.may(1, 3, day), false);
        }
        CHECKS.due("the first day", x.may(0, 0, 0), true);
        CHECKS.due("the last day", x.may(0, 0, 99), true);
        CHECKS.due("ahead of the year", x.may(0, 0, -1), false);
        CHECKS.due("behind the year", x.may(0, 0, 100), false);
        CHECKS.noIndex("may of shore 2", () -> x.may(2, 0, 0));
        CHECKS.noIndex("may of shore -1", () -> x.may(-1, 0, 0));
        CHECKS.noIndex("may of family 8", () -> x.may(0, 8, 0));
        CHECKS.noIndex("may of family -1", () -> x.may(0, -1, 0));
        CHECKS.noIndex("may of shore 6", () -> x.may(6, 0, 0));
    }

    private static void manyParts() {
        KelpShores x = Checks.withShores(1);
        StringBuilder text = new StringBuilder();
        for (int i = 0; i < 14; i++) {
            text.append(i == 0 ? "" : ";").append("shore0family").append(i % 8).append("from").append(i % 10)
                    .append("to").append(9).append("share0");
        }
        CHECKS.due("as many rights as a tape holds", Checks.tell(x, text.toString()), 14);
        CHECKS.due("all of them count", x.count(8), 14);
        CHECKS.due("the last but eight tells more", x.may(0, 5, 5), true);
        CHECKS.due("the latest of family 5", x.may(0, 5, 3), true);
        CHECKS.due("none of family 7 as early", x.may(0, 7, 6), false);
        StringBuilder rests = new StringBuilder("rest1");
        for (int i = 0; i < 65; i++) {
            rests.append(";rest").append(i % 10);
        }
        CHECKS.due("as many rests as a tape holds", Checks.tell(x, rests.toString()), 66);
        CHECKS.due("the last rest", x.count(7), 4);
    }
}
