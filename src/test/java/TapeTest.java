/** Promises 1 to 3: a new object, feed, end. */
final class TapeTest {
    private static final Checks CHECKS = new Checks();

    public static void main(String[] args) {
        newObject();
        feedGrowsTheTape();
        feedHasAnEnd();
        endCuts();
        bytesComeHighestFirst();
        bytesCutOffAreGone();
        CHECKS.close();
    }

    private static void newObject() {
        KelpShores x = new KelpShores();
        int[] counts = {0, 0, 0, 0, 0, 0, 0, 2, 0};
        for (int what = 0; what < counts.length; what++) {
            CHECKS.due("new count(" + what + ")", x.count(what), counts[what]);
        }
        CHECKS.due("new fault()", x.fault(), KelpShores.NONE);
        CHECKS.due("NONE", KelpShores.NONE, -1);
        CHECKS.due("new plan()", x.plan(), 0);
        int[] first = {0, 0, 0, 20, 0, 0, 4};
        for (int family = 0; family < 8; family++) {
            for (int what = 0; what < first.length; what++) {
                CHECKS.due("new has(" + family + ", " + what + ")", x.has(family, what), first[what]);
            }
            CHECKS.due("new balance", x.balance(family, 9999, 9999), 0);
        }
        CHECKS.noIndex("new cast(0)", () -> x.cast(0));
        CHECKS.noIndex("new burns(0)", () -> x.burns(0));
        CHECKS.noIndex("new lot(0, 0)", () -> x.lot(0, 0));
        CHECKS.noIndex("new undo(0)", () -> x.undo(0));
        CHECKS.due("new end(0)", x.end(0), true);
        CHECKS.due("new end(1)", x.end(1), false);
    }

    private static void feedGrowsTheTape() {
        KelpShores x = new KelpShores();
        for (int length = 20; length <= 400; length += 20) {
            CHECKS.due("feed", x.feed(0, -1, Integer.MIN_VALUE, Integer.MAX_VALUE, 7), length);
        }
    }

    private static void feedHasAnEnd() {
        KelpShores x = new KelpShores();
        for (int i = 0; i < 20; i++) {
            x.feed(0, 0, 0, 0, 0);
        }
        CHECKS.due("feed on a full tape", x.feed(0, 0, 0, 0, 0), KelpShores.NONE);
        CHECKS.due("the tape has still 400", x.end(400), true);
        CHECKS.due("end(381)", x.end(381), true);
        CHECKS.due("feed to 401", x.feed(0, 0, 0, 0, 0), KelpShores.NONE);
        CHECKS.due("no byte came", x.end(382), false);
        CHECKS.due("end(380)", x.end(380), true);
        CHECKS.due("feed to 400", x.feed(0, 0, 0, 0, 0), 400);
    }

    private static void endCuts() {
        KelpShores x = new KelpShores();
        x.feed(1, 2, 3, 4, 5);
        CHECKS.due("end(21)", x.end(21), false);
        CHECKS.due("end(-1)", x.end(-1), false);
        CHECKS.due("end(least)", x.end(Integer.MIN_VALUE), false);
        CHECKS.due("end(most)", x.end(Integer.MAX_VALUE), false);
        CHECKS.due("end(20)", x.end(20), true);
        CHECKS.due("end(7)", x.end(7), true);
        CHECKS.due("end(8) behind end(7)", x.end(8), false);
        CHECKS.due("feed behind end(7)", x.feed(0, 0, 0, 0, 0), 27);
        CHECKS.due("end(0)", x.end(0), true);
        CHECKS.due("feed behind end(0)", x.feed(0, 0, 0, 0, 0), 20);
    }

    private static void bytesComeHighestFirst() {
        KelpShores x = new KelpShores();
        x.feed(0x20726573, 0x74202031, 0x203b7265, 0x73743120, 0x3b202020);
        x.end(16);
        CHECKS.due("' rest  1 ;rest1 '", x.rights(), 2);
        CHECKS.due("its rest", x.count(7), 1);
        x.feed(0x72657374, 0x31203132, 0, 0, 0);
        x.end(6);
        x.feed(0x20202020, 0x20202020, 0x20202020, 0x20202020, 0x2020203b);
        CHECKS.noArgument("bytes come behind those that stay", x::rights);
        CHECKS.due("the text's length", x.fault(), 26);
        x.feed(0x72657374, 0x80ffffff, 0, 0, 0);
        CHECKS.noArgument("bytes above 127", x::rights);
        CHECKS.due("a byte above 127", x.fault(), 4);
    }

    private static void bytesCutOffAreGone() {
        KelpShores x = new KelpShores();
        x.feed(0x72657374, 0x31323334, 0, 0, 0);
        x.end(5);
        CHECKS.due("'rest1', with digits cut off", x.rights(), 1);
        CHECKS.due("its rest", x.count(7), 1);
        x.feed(0x72657374, 0x37372020, 0, 0, 0);
        x.end(4);
        CHECKS.noArgument("'rest', with a number cut off", x::rights);
        CHECKS.due("the text's length", x.fault(), 4);
        x.feed(0x72657374, 0x373b7878, 0, 0, 0);
        x.end(5);
        CHECKS.due("'rest7', with ';xx' cut off", x.rights(), 1);
        x.feed(0x72657374, 0x78782020, 0, 0, 0);
        x.end(4);
        CHECKS.noArgument("'rest', with letters cut off", x::rights);
        CHECKS.due("the text's length again", x.fault(), 4);
        x.feed(0x20202020, 0x20202020, 0, 0, 0);
        x.end(3);
        CHECKS.noArgument("blanks, with blanks cut off", x::rights);
        CHECKS.due("the length of blanks", x.fault(), 3);
    }
}
