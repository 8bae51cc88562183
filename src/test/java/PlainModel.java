import java.util.ArrayList;
import java.util.Arrays;
import java.util.HashMap;
import java.util.List;
import java.util.Map;
import java.util.NoSuchElementException;
import java.util.regex.Matcher;
import java.util.regex.Pattern;

/** The document once more, written for plainness with the whole library: RandomRunsTest compares with it. */
public final class PlainModel {
    private static final int NONE = -1;

    private record Part(int shore, int family, int from, int to, int share) {
    }

    private record Cutting(int day, int family) {
    }

    private static final class RockState {
        int depth;
        int room;
        int weed;
        int grew;
        int storms;
        final List<Cutting> cuttings = new ArrayList<>();
        int cut;
    }

    private static final class EntryState {
        int family;
        int money;
        int forDay;
        int told;
        Integer undone;
    }

    private String tape = "";
    private int fault = NONE;
    private int rest = 2;
    private List<Part> parts = new ArrayList<>();
    private final List<List<RockState>> shores = new ArrayList<>();
    private final List<Integer> casts = new ArrayList<>();
    private final int[] hands = {4, 4, 4, 4, 4, 4, 4, 4};
    private final int[] wet = new int[8];
    private final int[] dry = new int[8];
    private final int[] ash = new int[8];
    private final int[] work = new int[8];
    private final int[] spoilt = new int[8];
    private final int[] lost = new int[8];
    private final Map<String, Integer> owed = new HashMap<>();
    private final List<int[]> pits = new ArrayList<>();
    private final List<int[]> lots = new ArrayList<>();
    private final List<EntryState> entries = new ArrayList<>();
    private final List<boolean[]> foretold = new ArrayList<>();
    private int today;
    private int tide;

    private static void index(boolean there) {
        if (!there) {
            throw new IndexOutOfBoundsException();
        }
    }

    private static void argument(boolean good) {
        if (!good) {
            throw new IllegalArgumentException();
        }
    }

    private static void more(boolean room) {
        if (!room) {
            throw new UnsupportedOperationException();
        }
    }

    private void shoreThere(int shore) {
        index(shore >= 0 && shore < shores.size());
    }

    private static void familyThere(int family) {
        index(family >= 0 && family < 8);
    }

    public int feed(int a, int b, int c, int d, int e) {
        if (tape.length() > 380) {
            return NONE;
        }
        StringBuilder text = new StringBuilder(tape);
        for (int number : new int[] {a, b, c, d, e}) {
            for (byte each : java.nio.ByteBuffer.allocate(4).putInt(number).array()) {
                text.append((char) (each & 255));
            }
        }
        tape = text.toString();
        return tape.length();
    }

    public boolean end(int n) {
        boolean fits = n >= 0 && n <= tape.length();
        tape = fits ? tape.substring(0, n) : tape;
        return fits;
    }

    public int rights() {
        String text = tape;
        tape = "";
        List<Part> told = new ArrayList<>();
        int toldRest = 2;
        int many = 0;
        List<String> waits = new ArrayList<>(List.of("part"));
        List<Integer> numbers = new ArrayList<>();
        Matcher things = Pattern.compile(" *([a-z]+|[0-9]+|;|[^ ]|$)", Pattern.DOTALL).matcher(text);
        int at = 0;
        while (true) {
            things.region(at, text.length());
            things.lookingAt();
            String thing = things.group(1);
            int begin = things.start(1);
            at = things.end(1);
            String want = waits.remove(0);
            boolean good;
            if (want.equals("part")) {
                good = thing.equals("rest") || thing.equals("shore");
                numbers.clear();
                many++;
                waits.addAll(thing.equals("rest") ? List.of("0-20", "more")
                        : List.of("0-" + (shores.size() - 1), "family", "0-7", "from", "0-99", "to", "from-99",
                                "share", "0-100", "more"));
            } else if (want.equals("more")) {
                if (numbers.size() == 1) {
                    toldRest = numbers.get(0);
                } else {
                    told.add(new Part(numbers.get(0), numbers.get(1), numbers.get(2), numbers.get(3),
                            numbers.get(4)));
                }
                if (thing.isEmpty()) {
                    parts = told;
                    rest = toldRest;
                    fault = NONE;
                    return many;
                }
                good = thing.equals(";");
                waits.add("part");
            } else if (want.contains("-")) {
                good = thing.matches("[0-9]{1,3}");
                String[] bounds = want.replace("0--1", "1-0").replace("from", "" + (numbers.size() > 2
                        ? numbers.get(2) : 0)).split("-");
                good = good && Integer.parseInt(thing) >= Integer.parseInt(bounds[0])
                        && Integer.parseInt(thing) <= Integer.parseInt(bounds[1]);
                if (good) {
                    numbers.add(Integer.parseInt(thing));
                }
            } else {
                good = thing.equals(want);
            }
            if (!good) {
                fault = begin;
                throw new IllegalArgumentException();
            }
        }
    }

    public int fault() {
        return fault;
    }

    private Part partOf(int shore, int family, int day) {
        return parts.stream().filter(p -> p.shore == shore && p.family == family && p.from <= day && day <= p.to)
                .findFirst().orElse(null);
    }

    public boolean may(int shore, int family, int day) {
        shoreThere(shore);
        familyThere(family);
        return partOf(shore, family, day) != null;
    }

    public int shore() {
        more(shores.size() < 6);
        shores.add(new ArrayList<>());
        casts.add(0);
        return shores.size() - 1;
    }

    public int rock(int shore, int depth, int room) {
        shoreThere(shore);
        argument(depth >= 0 && depth <= 9 && room >= 1 && room <= 1000);
        more(shores.get(shore).size() < 4);
        RockState rock = new RockState();
        rock.depth = depth;
        rock.room = room;
        rock.weed = room;
        rock.grew = room;
        shores.get(shore).add(rock);
        return shores.get(shore).size() - 1;
    }

    public void hands(int family, int n) {
        familyThere(family);
        argument(n >= 0 && n <= 20);
        hands[family] = n;
    }

    public int day(int newTide, int wind, int rain, int storm) {
        for (int n : new int[] {newTide, wind, rain, storm}) {
            argument(n >= 0 && n <= 9);
        }
        more(today < 9999);
        today++;
        tide = newTide;
        for (int s = 0; s < shores.size(); s++) {
            for (RockState rock : shores.get(s)) {
                if (today % 100 == 0) {
                    int growth = (int) Math.ceil((rock.room - rock.weed) / 4.0);
                    rock.weed += growth;
                    rock.grew += growth;
                }
                if (rock.depth <= storm) {
                    int taken = rock.weed * storm / 100;
                    rock.weed -= taken;
                    rock.storms += taken;
                    casts.set(s, casts.get(s) + taken);
                }
            }
        }
        for (int f = 0; f < 8; f++) {
            if (rain >= 5) {
                int gone = (int) Math.ceil(dry[f] / 10.0);
                dry[f] -= gone;
                spoilt[f] += gone;
            }
            if (rain == 0) {
                int dries = wet[f] * wind / 10;
                wet[f] -= dries - dries % 4;
                dry[f] += dries / 4;
            }
            work[f] = 0;
        }
        for (int[] pit : pits) {
            if (pit[2] > 0 && rain >= 3) {
                dry[pit[0]] += pit[1] / 2;
                lost[pit[0]] += pit[1] - pit[1] / 2;
                pit[2] = 0;
            } else if (pit[2] > 0) {
                pit[2]--;
                ash[pit[0]] += pit[2] == 0 ? pit[1] / 5 : 0;
            }
        }
        return today;
    }

    private void take(int shore, int family, int n) {
        wet[family] += n;
        work[family] += n;
        owed.merge(family + "/" + shore + "/" + today / 100, n * partOf(shore, family, today % 100).share / 100,
                Integer::sum);
    }

    public int cut(int shore, int rock, int family, int n) {
        shoreThere(shore);
        index(rock >= 0 && rock < shores.get(shore).size());
        familyThere(family);
        argument(n >= 1 && n <= 1000);
        RockState its = shores.get(shore).get(rock);
        boolean sameDay = its.cuttings.contains(new Cutting(today, family));
        boolean rests = its.cuttings.stream().anyMatch(c -> today / 100 - c.day / 100 <= rest);
        if (partOf(shore, family, today % 100) == null) {
            return 1;
        } else if (tide > its.depth) {
            return 2;
        } else if (rests && !sameDay) {
            return 3;
        } else if (its.weed < n) {
            return 4;
        } else if (work[family] + n > 5 * hands[family]) {
            return 5;
        }
        its.weed -= n;
        its.cut += n;
        its.cuttings.add(new Cutting(today, family));
        take(shore, family, n);
        return 0;
    }

    public int gather(int shore, int family, int n) {
        shoreThere(shore);
        familyThere(family);
        argument(n >= 1 && n <= 1000);
        if (partOf(shore, family, today % 100) == null) {
            return 1;
        } else if (casts.get(shore) < n) {
            return 4;
        } else if (work[family] + n > 5 * hands[family]) {
            return 5;
        }
        casts.set(shore, casts.get(shore) - n);
        take(shore, family, n);
        return 0;
    }

    private static int pick(int what, int... all) {
        if (what < 0 || what >= all.length) {
            throw new NoSuchElementException();
        }
        return all[what];
    }

    public int look(int shore, int rock, int what) {
        shoreThere(shore);
        index(rock >= 0 && rock < shores.get(shore).size());
        RockState its = shores.get(shore).get(rock);
        int year = its.cuttings.stream().mapToInt(c -> c.day / 100).max().orElse(NONE);
        return pick(what, its.weed, year, its.grew, its.cut, its.storms);
    }

    public int cast(int shore) {
        shoreThere(shore);
        return casts.get(shore);
    }

    public int has(int f, int what) {
        familyThere(f);
        return pick(what, wet[f], dry[f], ash[f], Math.max(0, 5 * hands[f] - work[f]), spoilt[f], lost[f], hands[f]);
    }

    public int owes(int family, int shore, int year) {
        familyThere(family);
        shoreThere(shore);
        return owed.getOrDefault(family + "/" + shore + "/" + year, 0);
    }

    public int pit(int family) {
        familyThere(family);
        more(pits.size() < 12);
        pits.add(new int[] {family, 0, 0});
        return pits.size() - 1;
    }

    public boolean light(int pit, int load) {
        index(pit >= 0 && pit < pits.size());
        argument(load >= 20 && load <= 1000);
        int[] its = pits.get(pit);
        if (its[2] > 0 || dry[its[0]] < load) {
            return false;
        }
        dry[its[0]] -= load;
        its[1] = load;
        its[2] = 3;
        return true;
    }

    public int burns(int pit) {
        index(pit >= 0 && pit < pits.size());
        return pits.get(pit)[2];
    }

    private int addEntry(int family, int money, int day) {
        EntryState entry = new EntryState();
        entry.family = family;
        entry.money = money;
        entry.forDay = day;
        entry.told = today;
        entries.add(entry);
        return entries.size() - 1;
    }

    public int sell(int family, int n, int many, int a, int b, int c, int d, int e) {
        familyThere(family);
        argument(n >= 1 && n <= 1000 && many >= 3 && many <= 5);
        int[] tests = Arrays.copyOf(new int[] {a, b, c, d, e}, many);
        Arrays.sort(tests);
        argument(tests[0] >= 0 && tests[many - 1] <= 99);
        if (ash[family] < n || lots.size() == 60 || entries.size() == 200) {
            return NONE;
        }
        int doubted = tests[many - 1] - tests[0] > 20 ? 1 : 0;
        int middle = many == 5 ? tests[2] : tests[1];
        int strength = doubted == 1 ? tests[0] : middle;
        ash[family] -= n;
        lots.add(new int[] {family, n, strength, doubted, n * strength, addEntry(family, n * strength, today)});
        return lots.size() - 1;
    }

    public int lot(int lot, int what) {
        index(lot >= 0 && lot < lots.size());
        return pick(what, lots.get(lot));
    }

    public int enter(int family, int money, int day) {
        familyThere(family);
        argument(money >= -100000 && money <= 100000 && day >= 0 && day <= 9999);
        return entries.size() == 200 ? NONE : addEntry(family, money, day);
    }

    public boolean undo(int entry) {
        index(entry >= 0 && entry < entries.size());
        boolean first = entries.get(entry).undone == null;
        entries.get(entry).undone = first ? Integer.valueOf(today) : entries.get(entry).undone;
        return first;
    }

    public int balance(int family, int day, int known) {
        familyThere(family);
        return entries.stream().filter(e -> e.family == family && e.forDay <= day && e.told <= known
                && (e.undone == null || known < e.undone)).mapToInt(e -> e.money).sum();
    }

    public int foretell(boolean low, boolean windy, boolean rainy) {
        if (foretold.size() == 16) {
            return NONE;
        }
        foretold.add(new boolean[] {low, windy, rainy});
        return foretold.size();
    }

    private boolean fair(int day) {
        return day < foretold.size() && !foretold.get(day)[2];
    }

    private int bestFrom(int day, int wetLoads, int dryLoads, Map<String, Integer> known) {
        if (day == foretold.size()) {
            return 0;
        }
        String key = day + "/" + wetLoads + "/" + dryLoads;
        if (known.containsKey(key)) {
            return known.get(key);
        }
        int best = bestFrom(day + 1, wetLoads, dryLoads, known);
        if (foretold.get(day)[0]) {
            best = Math.max(best, bestFrom(day + 1, wetLoads + 1, dryLoads, known));
        }
        if (foretold.get(day)[1] && fair(day) && wetLoads > 0) {
            best = Math.max(best, bestFrom(day + 1, wetLoads - 1, dryLoads + 1, known));
        }
        if (dryLoads > 0 && fair(day) && fair(day + 1) && fair(day + 2)) {
            best = Math.max(best, dryLoads + bestFrom(day + 1, wetLoads, 0, known));
        }
        known.put(key, best);
        return best;
    }

    public int plan() {
        int best = bestFrom(0, 0, 0, new HashMap<>());
        foretold.clear();
        return best;
    }

    public int count(int what) {
        int burning = (int) pits.stream().filter(p -> p[2] > 0).count();
        int[] all = {today, shores.size(), pits.size(), burning, lots.size(), entries.size(), foretold.size(), rest,
            parts.size()};
        return what < 0 || what >= all.length ? NONE : all[what];
    }
}
