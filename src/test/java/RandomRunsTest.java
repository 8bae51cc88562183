import java.lang.reflect.InvocationTargetException;
import java.lang.reflect.Method;
import java.util.Random;

/** Runs of 512 calls by a fixed seed: every answer and every exception is that of PlainModel. */
final class RandomRunsTest {
    private static final Checks CHECKS = new Checks();
    private static final int RUNS = 1500;
    private static final int CALLS = 512;
    private static final int[] EDGES = {-1, 0, 1, 9, 10, 99, 100, 1000, 1001, Integer.MIN_VALUE, Integer.MAX_VALUE};
    private static final String[] WORDS = {"shore", "family", "from", "to", "share", "rest", ";", " ", "x", "12",
        "1000", "rests", "\t", "0", "\0", "\u00e9"};

    private final Random random;
    private final int run;
    private final KelpShores real = new KelpShores();
    private final PlainModel model = new PlainModel();
    /** Rich runs have much weed, many hands and wide rights, so that ash is made and sold. */
    private final boolean rich;
    private int calls;

    private RandomRunsTest(int run) {
        this.run = run;
        this.rich = run % 3 != 0;
        this.random = new Random(run);
    }

    public static void main(String[] args) throws ReflectiveOperationException {
        for (int run = 0; run < RUNS; run++) {
            RandomRunsTest test = new RandomRunsTest(run);
            test.begin();
            while (test.calls < CALLS) {
                test.step();
            }
        }
        CHECKS.close();
    }

    private void begin() throws ReflectiveOperationException {
        int shores = rich ? 2 : random.nextInt(4);
        for (int s = 0; s < shores; s++) {
            call("shore");
            for (int r = rich ? 4 : random.nextInt(5); r > 0; r--) {
                call("rock", s, random.nextInt(10), rich ? 1000 - random.nextInt(100) : 1 + random.nextInt(1000));
            }
        }
        for (int f = 0; f < 3; f++) {
            call("hands", f, rich ? 20 - random.nextInt(3) : random.nextInt(21));
            call("pit", f);
        }
        tell();
    }

    private void step() throws ReflectiveOperationException {
        int rainOfRun = run % 4 == 0 ? 10 : 4;
        switch (random.nextInt(24)) {
            case 0, 1, 2, 3 -> call("day", small(10), number(10), Math.max(0, random.nextInt(rainOfRun) - 2),
                    Math.max(0, number(12) - 2));
            case 4, 5, 6 -> call("cut", number(rich ? 2 : 3), number(4), number(rich ? 2 : 4), amount(100));
            case 7, 8 -> call("gather", number(rich ? 2 : 3), number(rich ? 2 : 4), amount(100));
            case 9, 10 -> call("light", number(rich ? 2 : 4), 15 + random.nextInt(40));
            case 11 -> call("sell", number(rich ? 2 : 4), amount(4),
                    random.nextInt(9) == 0 ? number(7) : 3 + random.nextInt(3), test(), test(), test(), test(), test());
            case 12 -> call("look", number(3), number(4), number(6));
            case 13 -> call("has", number(4), number(8));
            case 14 -> call("owes", number(4), number(3), number(4));
            case 15 -> call("balance", number(4), number(120), number(120));
            case 16 -> call("enter", number(4), number(3000) - 1000, number(120));
            case 17 -> call(random.nextBoolean() ? "undo" : "lot", two(number(rich ? 6 : 12), number(7)));
            case 18 -> call("foretell", random.nextBoolean(), random.nextBoolean(), random.nextInt(4) == 0);
            case 19 -> call("count", number(10));
            case 20 -> rareThings();
            case 21 -> call("may", number(3), number(4), number(110));
            case 22 -> call("cast", number(3));
            default -> quietDays();
        }
    }

    private void rareThings() throws ReflectiveOperationException {
        switch (random.nextInt(9)) {
            case 0 -> call("shore");
            case 1 -> call("rock", number(4), number(11), amount(1000));
            case 2 -> call("hands", number(9), number(22));
            case 3 -> call("pit", number(9));
            case 4 -> call("plan");
            case 5 -> call("burns", number(13));
            case 6 -> call("feed", random.nextInt(), 0x72657374, 0x20312020, random.nextInt(), 7);
            case 7 -> call("end", number(60));
            default -> tell();
        }
    }

    /** Years must pass within the calls that an object has. */
    private void quietDays() throws ReflectiveOperationException {
        for (int i = run % 5 == 0 ? 20 : 1; i > 0; i--) {
            call("day", 0, random.nextInt(10), 0, random.nextInt(3));
        }
    }

    private void tell() throws ReflectiveOperationException {
        StringBuilder text = new StringBuilder();
        for (int parts = 1 + random.nextInt(6); parts > 0; parts--) {
            text.append(random.nextInt(5) == 0 ? " rest " + random.nextInt(4) : right());
            text.append(parts > 1 ? ";" : "");
        }
        for (int slips = random.nextInt(3) - 1; slips > 0; slips--) {
            int at = random.nextInt(text.length());
            text.replace(at, Math.min(text.length(), at + random.nextInt(3)), WORDS[random.nextInt(WORDS.length)]);
        }
        if (text.length() <= 400) {
            feed(text.toString());
            call("rights");
        }
        call("fault");
        call("count", 7);
        call("count", 8);
    }

    private String right() {
        int middle = rich ? 80 : random.nextInt(80);
        int from = random.nextInt(rich ? 5 : 1 + middle);
        int to = middle + random.nextInt(20);
        return "shore " + random.nextInt(2) + " family " + random.nextInt(rich ? 2 : 4) + " from " + from + " to " + to
                + " share " + random.nextInt(101);
    }

    /** What stands behind the text is no zeros but signs that could go on with it: end() must cut them off. */
    private void feed(String text) throws ReflectiveOperationException {
        call("end", 0);
        for (int from = 0; from < text.length(); from += 20) {
            int[] words = new int[5];
            for (int i = from; i < from + 20; i++) {
                String behind = WORDS[random.nextInt(WORDS.length)];
                int sign = i < text.length() ? text.charAt(i) : behind.charAt(0);
                words[(i - from) / 4] = words[(i - from) / 4] << 8 | sign;
            }
            call("feed", words[0], words[1], words[2], words[3], words[4]);
        }
        call("end", text.length());
    }

    private int small(int below) {
        return random.nextInt(3) == 0 ? number(below) : random.nextInt(2);
    }

    private int number(int below) {
        return random.nextInt(40) == 0 ? EDGES[random.nextInt(EDGES.length)] : random.nextInt(below);
    }

    private int amount(int below) {
        return random.nextInt(40) == 0 ? EDGES[random.nextInt(EDGES.length)] : 1 + random.nextInt(below);
    }

    private int test() {
        return random.nextInt(60) == 0 ? EDGES[random.nextInt(EDGES.length)] : 30 + random.nextInt(26);
    }

    private Object[] two(int a, int b) {
        return new Object[] {a, b};
    }

    /** A step has more calls than one: those behind the last that the document counts are left out. */
    private void call(String name, Object... args) throws ReflectiveOperationException {
        if (calls >= CALLS) {
            return;
        }
        calls++;
        Object[] fitting = name.equals("undo") ? new Object[] {args[0]} : args;
        String got = answer(real, name, fitting);
        String want = answer(model, name, fitting);
        CHECKS.due("run " + run + ", call " + calls + ": " + name + java.util.Arrays.toString(fitting) + " gave " + got
                + " for " + want, got.equals(want), true);
    }

    private static String answer(Object object, String name, Object[] args) throws ReflectiveOperationException {
        for (Method each : object.getClass().getMethods()) {
            if (each.getName().equals(name) && each.getDeclaringClass() == object.getClass()) {
                try {
                    return String.valueOf(each.invoke(object, args));
                } catch (InvocationTargetException e) {
                    return e.getCause().getClass().getName();
                }
            }
        }
        throw new AssertionError("no method " + name);
    }
}
