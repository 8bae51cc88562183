/** Promises 7 to 9: rights, fault, may; with the sentences of "==== 2" on the text. */
final class RightsTest {
    private static final Checks CHECKS = new Checks();
    private static final String WHOLE = "shore 0 family 7 from 9 to 9 share 0";
    private static final int SHORES = 2;

    public static void main(String[] args) {
        CHECKS.sentence("7: Uses the TAPE up", RightsTest::usesTheTapeUp);
        CHECKS.sentence("7: the RIGHTS: how many PARTS", RightsTest::howManyParts);
        CHECKS.sentence("7: IllegalArgumentException: the text is wrong: all stays", RightsTest::allStays);
        CHECKS.sentence("==== 2: a text: PART { ; PART }", RightsTest::partsAndSemicolons);
        CHECKS.sentence("==== 2: a SHORE that there is", RightsTest::aShoreThatThereIs);
        CHECKS.sentence("==== 2: a FAMILY", RightsTest::aFamily);
        CHECKS.sentence("==== 2: days of the YEAR, 0 to 99", RightsTest::daysOfTheYear);
        CHECKS.sentence("==== 2: the second one not ahead of the first", RightsTest::secondNotAhead);
        CHECKS.sentence("==== 2: a SHARE, 0 to 100", RightsTest::aShare);
        CHECKS.sentence("==== 2: rest NUMBER (0 to 20; at first 2)", RightsTest::restOfYears);
        CHECKS.sentence("==== 2: A NUMBER: 1 to 3 digits", RightsTest::numbersOfDigits);
        CHECKS.sentence("==== 2: Words are as long as a to z go on", RightsTest::wordsGoOn);
        CHECKS.sentence("==== 2: between all there may be blanks (32)", RightsTest::blanksBetween);
        CHECKS.sentence("==== 2: also ahead and behind", RightsTest::blanksAheadAndBehind);
        CHECKS.sentence("==== 2: A text tells all anew", RightsTest::allAnew);
        CHECKS.sentence("==== 2: what it does not tell is as at first: no RIGHTS, REST 2", RightsTest::asAtFirst);
        CHECKS.sentence("==== 2: the begin of the first thing that cannot stand there", RightsTest::firstWrongThing);
        CHECKS.sentence("==== 2: a NUMBER of more digits, or out of its bounds", RightsTest::beginOfANumber);
        CHECKS.sentence("==== 2: a word that is none", RightsTest::beginOfAWord);
        CHECKS.sentence("==== 2: or the text's length, if more must come", RightsTest::moreMustCome);
        CHECKS.sentence("==== 2: A FAMILY has a RIGHT on a SHORE on a day, if a PART tells so",
                RightsTest::aPartTellsSo);
        CHECKS.sentence("8: The first wrong byte of the latest rights()", RightsTest::faultOfTheLatest);
        CHECKS.sentence("8: NONE without one", RightsTest::noFault);
        CHECKS.sentence("8: and ahead of any", RightsTest::faultAheadOfAny);
        CHECKS.sentence("9: Whether a FAMILY has a RIGHT on a SHORE on a day of the YEAR", RightsTest::mayOnADay);
        CHECKS.sentence("9: false of another day", RightsTest::mayOnAnotherDay);
        CHECKS.sentence("2 and 7: as much as a TAPE holds", RightsTest::fullTapes);
        CHECKS.close();
    }

    private static void isRight(String text, int parts, int withRights, int rest) {
        KelpShores x = Scenes.withShores(SHORES);
        Scenes.feedText(x, text);
        int[] answer = {KelpShores.NONE};
        CHECKS.noThrow("rights of '" + text + "'", () -> answer[0] = x.rights());
        CHECKS.due("parts of '" + text + "'", answer[0], parts);
        CHECKS.due("fault of '" + text + "'", x.fault(), KelpShores.NONE);
        CHECKS.due("rights of '" + text + "'", x.count(8), withRights);
        CHECKS.due("rest of '" + text + "'", x.count(7), rest);
    }

    private static void isWrong(String text, int place) {
        KelpShores x = Scenes.withShores(SHORES);
        CHECKS.noArgument("rights of '" + text + "'", () -> Scenes.tell(x, text));
        CHECKS.due("fault of '" + text + "'", x.fault(), place);
    }

    private static void usesTheTapeUp() {
        KelpShores x = Scenes.withShores(1);
        Scenes.tell(x, WHOLE);
        CHECKS.due("by a right text", x.end(1), false);
        CHECKS.noArgument("a wrong text", () -> Scenes.tell(x, "rust 1"));
        CHECKS.due("by a wrong text", x.end(1), false);
        CHECKS.noArgument("nothing is left of it", x::rights);
        CHECKS.due("an empty text is wrong at 0", x.fault(), 0);
        CHECKS.due("the tape begins anew", x.feed(0, 0, 0, 0, 0), 20);
    }

    private static void howManyParts() {
        isRight("rest 3", 1, 0, 3);
        isRight(WHOLE, 1, 1, 2);
        isRight("rest 3;" + WHOLE, 2, 1, 3);
        isRight(WHOLE + ";" + WHOLE + ";rest 4;" + WHOLE, 4, 3, 4);
    }

    private static void allStays() {
        KelpShores x = Scenes.withShores(1);
        Scenes.tell(x, WHOLE + ";rest 5");
        CHECKS.noArgument("a wrong end", () -> Scenes.tell(x, "rest 7;" + Scenes.right(0, 1, 1, 1, 1) + "; x"));
        CHECKS.due("rest stays", x.count(7), 5);
        CHECKS.due("rights stay", x.count(8), 1);
        CHECKS.due("the right stays", x.may(0, 7, 9), true);
        CHECKS.due("none comes", x.may(0, 1, 1), false);
        CHECKS.due("two texts later", Scenes.tell(x, "rest 1"), 1);
        CHECKS.due("nothing of the wrong text", x.may(0, 1, 1), false);
        CHECKS.due("where the text ahead was wrong", InUse.made().fault(), InUse.FAULT);
        InUse.isLeftBy(CHECKS, "a wrong text", used -> used.end(0), used -> Scenes.tell(used, "rest 21"));
    }

    private static void partsAndSemicolons() {
        isWrong("", 0);
        isWrong(";", 0);
        isWrong(" ;rest 1", 1);
        isRight("rest 1", 1, 0, 1);
        isWrong("rest 1;", 7);
        isWrong("rest 1; ", 8);
        isRight("rest 1;rest 2", 2, 0, 2);
        isWrong("rest 1;;rest 1", 7);
        isWrong("rest 1 rest 2", 7);
        isWrong("rest 1rest 2", 6);
        isWrong("rest 1,rest 2", 6);
        isWrong("rest 1:rest 2", 6);
        isWrong(WHOLE + ";", 37);
        isWrong(WHOLE + WHOLE, 36);
        isRight(WHOLE + ";" + WHOLE, 2, 2, 2);
    }

    private static void aShoreThatThereIs() {
        for (int shores = 0; shores <= 6; shores++) {
            KelpShores x = Scenes.withShores(shores);
            String behind = Scenes.allYear(shores, 0, 0);
            CHECKS.noArgument("shore " + shores + " of " + shores, () -> Scenes.tell(x, behind));
            CHECKS.due("fault", x.fault(), 6);
            if (shores > 0) {
                CHECKS.due("the last of " + shores, Scenes.tell(x, Scenes.allYear(shores - 1, 0, 0)), 1);
                CHECKS.due("its right", x.may(shores - 1, 0, 50), true);
            }
            if (shores < 6) {
                x.shore();
                CHECKS.due("when it is there", Scenes.tell(x, behind), 1);
            }
        }
    }

    private static void aFamily() {
        for (int family = 0; family <= 7; family++) {
            isRight(Scenes.allYear(1, family, 0), 1, 1, 2);
        }
        isWrong(Scenes.allYear(1, 8, 0), 15);
        isWrong(Scenes.allYear(1, 10, 0), 15);
        isWrong(Scenes.allYear(1, 999, 0), 15);
    }

    private static void daysOfTheYear() {
        isRight(Scenes.right(1, 7, 0, 0, 1), 1, 1, 2);
        isRight(Scenes.right(1, 7, 0, 99, 1), 1, 1, 2);
        isRight(Scenes.right(1, 7, 99, 99, 1), 1, 1, 2);
        isWrong(Scenes.right(1, 7, 100, 99, 1), 22);
        isWrong(Scenes.right(1, 7, 100, 100, 1), 22);
        isWrong(Scenes.right(1, 7, 0, 100, 1), 27);
        isWrong(Scenes.right(1, 7, 99, 100, 1), 28);
        isWrong("shore 1 family 7 from -1 to 9 share 1", 22);
    }

    private static void secondNotAhead() {
        isRight(Scenes.right(1, 7, 10, 10, 1), 1, 1, 2);
        isRight(Scenes.right(1, 7, 10, 11, 1), 1, 1, 2);
        isWrong(Scenes.right(1, 7, 10, 9, 1), 28);
        isWrong(Scenes.right(1, 7, 99, 0, 1), 28);
        isRight(Scenes.right(1, 7, 98, 98, 1) + ";" + Scenes.right(1, 7, 3, 3, 1), 2, 2, 2);
    }

    private static void aShare() {
        isRight(Scenes.right(1, 7, 0, 99, 0), 1, 1, 2);
        isRight(Scenes.right(1, 7, 0, 99, 100), 1, 1, 2);
        isWrong(Scenes.right(1, 7, 0, 99, 101), 36);
        isWrong(Scenes.right(1, 7, 0, 99, 999), 36);
    }

    private static void restOfYears() {
        for (int rest = 0; rest <= 20; rest++) {
            isRight("rest " + rest, 1, 0, rest);
        }
        isWrong("rest 21", 5);
        isWrong("rest 999", 5);
        isWrong("rest -1", 5);
        KelpShores x = new KelpShores();
        CHECKS.due("at first", x.count(7), 2);
        isRight("rest 3;rest 4", 2, 0, 4);
        isRight("rest 4;rest 3", 2, 0, 3);
    }

    private static void numbersOfDigits() {
        isWrong("rest ", 5);
        isRight("rest 7", 1, 0, 7);
        isRight("rest 07", 1, 0, 7);
        isRight("rest 007", 1, 0, 7);
        isWrong("rest 0007", 5);
        isWrong("rest 0000000000000000000000007", 5);
        isWrong("rest 4294967296", 5);
        isRight("shore 001 family 007 from 099 to 099 share 100", 1, 1, 2);
        isWrong("shore 0001 family 007 from 099 to 099 share 100", 6);
        isWrong("shore 001 family 0007 from 099 to 099 share 100", 17);
        isWrong("shore 001 family 007 from 0099 to 099 share 100", 26);
        isWrong("shore 001 family 007 from 099 to 0099 share 100", 33);
        isWrong("shore 001 family 007 from 099 to 099 share 0100", 43);
        isWrong("rest /", 5);
        isWrong("rest :", 5);
        isWrong("rest 1/", 6);
        isWrong("rest 1:", 6);
        isRight("rest 09", 1, 0, 9);
        isRight("rest 10", 1, 0, 10);
    }

    private static void wordsGoOn() {
        isRight("rest7", 1, 0, 7);
        isRight("shore0family0from0to0share0", 1, 1, 2);
        isRight("shore0family0from0to0share0;rest5;shore1family1from1to1share1", 3, 2, 5);
        isWrong("restx 1", 0);
        isWrong("resta1", 0);
        isWrong("restz1", 0);
        isWrong("rest`1", 4);
        isWrong("rest{1", 4);
        isWrong("restA1", 4);
        isWrong("restZ1", 4);
        isWrong("Rest 1", 0);
        isWrong("rEst 1", 0);
        isWrong("resT 1", 0);
        isWrong("res t 1", 0);
        isWrong("shorefamily 1", 0);
        isWrong("rest 1;restrest 2", 7);
        isWrong("shore 0 familyfrom 1", 8);
    }

    private static void blanksBetween() {
        isRight("rest          7;rest 8", 2, 0, 8);
        isRight("rest 7     ;     rest 8", 2, 0, 8);
        isRight("shore   0   family   7   from   9   to   9   share   0", 1, 1, 2);
        String[] wrong = {"\t", "\n", "\r", "\0", "\u001f", "!", "_", "\u00a0", "\u00ff", "."};
        for (String each : wrong) {
            isWrong("rest" + each + "7", 4);
            isWrong("rest 7" + each + ";rest 8", 6);
            isWrong("rest 7;" + each + "rest 8", 7);
            isWrong("shore 0" + each + "family 7 from 9 to 9 share 0", 7);
        }
        isWrong("rest 1 2", 7);
        isWrong("re st 1", 0);
    }

    private static void blanksAheadAndBehind() {
        isRight(" rest 7", 1, 0, 7);
        isRight("                    rest 7", 1, 0, 7);
        isRight("rest 7 ", 1, 0, 7);
        isRight("rest 7                    ", 1, 0, 7);
        isRight("   " + WHOLE + "   ", 1, 1, 2);
        isWrong("\trest 7", 0);
        isWrong("rest 7\n", 6);
        isWrong("rest 7\0", 6);
        isWrong("rest 7  \0", 8);
        isWrong(" ", 1);
        isWrong("   ", 3);
    }

    private static void allAnew() {
        KelpShores x = Scenes.withShores(1);
        Scenes.tell(x, WHOLE + ";rest 5");
        Scenes.tell(x, Scenes.right(0, 1, 2, 3, 4) + ";rest 6");
        CHECKS.due("a new right", x.may(0, 1, 2), true);
        CHECKS.due("none of the first text", x.may(0, 7, 9), false);
        CHECKS.due("one right alone", x.count(8), 1);
        CHECKS.due("another rest", x.count(7), 6);
    }

    private static void asAtFirst() {
        KelpShores x = Scenes.withShores(1);
        Scenes.tell(x, WHOLE + ";rest 5");
        Scenes.tell(x, "rest 6");
        CHECKS.due("no rights", x.count(8), 0);
        CHECKS.due("no right", x.may(0, 7, 9), false);
        CHECKS.due("the rest that is told", x.count(7), 6);
        Scenes.tell(x, WHOLE);
        CHECKS.due("the right that is told", x.may(0, 7, 9), true);
        CHECKS.due("rest", x.count(7), 2);
    }

    private static void firstWrongThing() {
        isWrong("7", 0);
        isWrong("rest x", 5);
        isWrong("rest;", 4);
        isWrong("rest rest 1", 5);
        isWrong("rest 1; family 1", 8);
        isWrong("shore family", 6);
        isWrong("shore 0;", 7);
        isWrong("shore 0 1", 8);
        isWrong("shore 0 from", 8);
        isWrong("shore 0 family from", 15);
        isWrong("shore 0 family 7 to", 17);
        isWrong("shore 0 family 7 from to", 22);
        isWrong("shore 0 family 7 from 9 share", 24);
        isWrong("shore 0 family 7 from 9 to share", 27);
        isWrong("shore 0 family 7 from 9 to 9;", 28);
        isWrong("shore 0 family 7 from 9 to 9 share;", 34);
        isWrong(WHOLE + " x", 37);
        isWrong(WHOLE + " 1", 37);
        isWrong(WHOLE + "rest 1", 36);
        isWrong("shore 9 family 9", 6);
        isWrong("rest 1;x", 7);
    }

    private static void beginOfANumber() {
        isWrong("rest   1000", 7);
        isWrong("rest   21", 7);
        isWrong("shore  2 family 0", 7);
        isWrong("shore2", 5);
        isWrong("shore 0 family   8 x", 17);
        isWrong("shore 0 family 7 from  100 x", 23);
        isWrong("shore 0 family 7 from 9 to  8 x", 28);
        isWrong("shore 0 family 7 from 9 to 9 share  101 x", 36);
        isRight("shore 1 family   7 from  99 to  99 share  100", 1, 1, 2);
    }

    private static void beginOfAWord() {
        isWrong("  resting 1", 2);
        isWrong("  res 1", 2);
        isWrong("  res", 2);
        isWrong("  shor 0", 2);
        isWrong("  shores 0", 2);
        isWrong("shore 0  famil 1", 9);
        isWrong("shore 0  familyx 1", 9);
        isWrong("shore 0 family 7  fro 9", 18);
        isWrong("shore 0 family 7  fromm 9", 18);
        isWrong("shore 0 family 7 from 9  t 9", 25);
        isWrong("shore 0 family 7 from 9  too 9", 25);
        isWrong("shore 0 family 7 from 9 to 9  shar 0", 30);
        isWrong("shore 0 family 7 from 9 to 9  shared 0", 30);
        isRight("shore 0 family 7 from 9 to 9  share 0", 1, 1, 2);
    }

    /** Each text that begins as a whole one but ends too early; one that ends in a word has that word wrong. */
    private static void moreMustCome() {
        String[] things = {"shore", "0", "family", "7", "from", "9", "to", "9", "share"};
        StringBuilder text = new StringBuilder();
        for (String thing : things) {
            text.append(' ');
            int begin = text.length();
            isWrong(text.toString(), begin);
            for (int letters = 1; letters < thing.length(); letters++) {
                isWrong(text + thing.substring(0, letters), begin);
            }
            text.append(thing);
            isWrong(text.toString(), text.length());
        }
        isRight(text + "0", 1, 1, 2);
        isWrong(text + "0;", text.length() + 2);
        isWrong(text + "0; rest", text.length() + 7);
        isWrong("rest", 4);
        isWrong("rest  ", 6);
        isRight("rest  1", 1, 0, 1);
    }

    private static void aPartTellsSo() {
        KelpShores x = Scenes.withShores(2);
        Scenes.tell(x, Scenes.right(1, 3, 10, 20, 5) + ";" + Scenes.right(1, 3, 30, 30, 6) + ";"
                + Scenes.right(0, 2, 15, 25, 0));
        int[] yes = {10, 11, 15, 19, 20, 30};
        int[] no = {0, 9, 21, 25, 29, 31, 99};
        for (int day : yes) {
            CHECKS.due("day " + day, x.may(1, 3, day), true);
            CHECKS.due("another family, day " + day, x.may(1, 2, day), false);
            CHECKS.due("another shore, day " + day, x.may(0, 3, day), false);
        }
        for (int day : no) {
            CHECKS.due("day " + day, x.may(1, 3, day), false);
        }
        CHECKS.due("the last part's", x.may(0, 2, 25), true);
    }

    private static void faultOfTheLatest() {
        KelpShores x = Scenes.withShores(1);
        CHECKS.noArgument("a wrong text", () -> Scenes.tell(x, "rest x"));
        CHECKS.due("its fault", x.fault(), 5);
        CHECKS.due("asked again", x.fault(), 5);
        x.feed(0, 0, 0, 0, 0);
        x.end(3);
        CHECKS.due("till the next rights()", x.fault(), 5);
        CHECKS.noArgument("another wrong text", x::rights);
        CHECKS.due("its fault", x.fault(), 0);
        CHECKS.noArgument("a third wrong text", () -> Scenes.tell(x, WHOLE + ";"));
        CHECKS.due("its fault", x.fault(), 37);
    }

    private static void noFault() {
        KelpShores x = Scenes.withShores(1);
        Scenes.tell(x, "rest 1");
        CHECKS.due("behind a right text", x.fault(), KelpShores.NONE);
        CHECKS.noArgument("a wrong text", () -> Scenes.tell(x, "rest 1x"));
        CHECKS.due("behind a wrong text", x.fault(), 6);
        Scenes.tell(x, "rest 1");
        CHECKS.due("behind a right text again", x.fault(), KelpShores.NONE);
    }

    private static void faultAheadOfAny() {
        KelpShores x = new KelpShores();
        CHECKS.due("at first", x.fault(), KelpShores.NONE);
        x.feed(0, 0, 0, 0, 0);
        CHECKS.due("wrong bytes alone are none", x.fault(), KelpShores.NONE);
        CHECKS.noArgument("they are read", x::rights);
        CHECKS.due("then they are", x.fault(), 0);
    }

    private static void mayOnADay() {
        KelpShores x = Scenes.withShores(2);
        Scenes.tell(x, Scenes.right(1, 7, 42, 57, 0));
        for (int day = 0; day < 100; day++) {
            CHECKS.due("day " + day, x.may(1, 7, day), day >= 42 && day <= 57);
        }
        Scenes.days(x, 3);
        CHECKS.due("whatever TODAY is", x.may(1, 7, 42), true);
    }

    private static void mayOnAnotherDay() {
        KelpShores x = Scenes.withShores(1);
        Scenes.tell(x, Scenes.allYear(0, 0, 0));
        CHECKS.due("the first day", x.may(0, 0, 0), true);
        CHECKS.due("the last day", x.may(0, 0, 99), true);
        int[] others = {-1, 100, 101, 150, 199, 200, -100, Integer.MIN_VALUE, Integer.MAX_VALUE};
        for (int day : others) {
            CHECKS.due("day " + day, x.may(0, 0, day), false);
        }
    }

    private static void fullTapes() {
        KelpShores x = Scenes.withShores(1);
        StringBuilder rights = new StringBuilder();
        for (int i = 0; i < 14; i++) {
            rights.append(i == 0 ? "" : ";").append("shore0family").append(i % 8).append("from").append(i % 10)
                    .append("to9share0");
        }
        CHECKS.due("rights", Scenes.tell(x, rights.toString()), 14);
        CHECKS.due("all of them count", x.count(8), 14);
        CHECKS.due("the last one", x.may(0, 5, 3), true);
        CHECKS.due("ahead of the last one", x.may(0, 5, 2), false);
        CHECKS.due("the eighth", x.may(0, 7, 7), true);
        CHECKS.due("ahead of the eighth", x.may(0, 7, 6), false);
        String rests = "rest1;".repeat(65);
        CHECKS.due("rests, the last digit on the last byte", Scenes.tell(x, rests + "rest    17"), 66);
        CHECKS.due("the last rest", x.count(7), 17);
        CHECKS.noArgument("a wrong last byte", () -> Scenes.tell(x, rests + "rest   17x"));
        CHECKS.due("its place", x.fault(), 399);
        CHECKS.noArgument("more must come", () -> Scenes.tell(x, rests + "rest1;rest"));
        CHECKS.due("the length of a full tape", x.fault(), 400);
        CHECKS.due("the last rest stays", x.count(7), 17);
    }
}
