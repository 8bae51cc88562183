import java.util.Arrays;
import java.util.NoSuchElementException;

/**
 * Shores where kelp is cut for ash: rocks, families with rights, days of weather, pits, lots of ash,
 * the store's entries, and a plan of foretold days. The promises stand in the project's document.
 */
public final class KelpShores {
    public static final int NONE = -1;

    private static final int DAYS_A_YEAR = 100;
    private static final int YEARS = 100;
    private static final int LAST_DAY = 9999;
    private static final int MOST_WEATHER = 9;
    private static final int MOST_SHORES = 6;
    private static final int MOST_ROCKS = 4;
    private static final int MOST_DEPTH = 9;
    private static final int MOST_AMOUNT = 1000;
    private static final int FAMILIES = 8;
    private static final int FIRST_HANDS = 4;
    private static final int MOST_HANDS = 20;
    private static final int WORK_A_HAND = 5;
    private static final int MOST_PITS = 12;
    private static final int LEAST_LOAD = 20;
    private static final int BURNING_DAYS = 3;
    private static final int RAIN_THAT_SPOILS = 5;
    private static final int RAIN_THAT_PUTS_OUT = 3;
    private static final int WET_FOR_ONE_DRY = 4;
    private static final int MOST_LOTS = 60;
    private static final int LEAST_TESTS = 3;
    private static final int MOST_TESTS = 5;
    private static final int MOST_TEST = 99;
    private static final int DOUBTED_ABOVE = 20;
    private static final int MOST_ENTRIES = 200;
    private static final int MOST_MONEY = 100000;
    private static final int MOST_FORETOLD = 16;
    private static final int TAPE_ROOM = 400;
    private static final int FEED_BYTES = 20;
    private static final int FIRST_REST = 2;
    private static final int MOST_REST = 20;
    private static final int MOST_SHARE = 100;
    /** A part with a right has 27 bytes at least and a ';' ahead of the next: 400 bytes hold 14. */
    private static final int MOST_RIGHTS = 15;

    private static final int NOTHING_AGAINST = 0;
    private static final int NO_RIGHT = 1;
    private static final int TIDE_TOO_HIGH = 2;
    private static final int ROCK_RESTS = 3;
    private static final int NOT_SO_MUCH = 4;
    private static final int NOT_ENOUGH_WORK = 5;

    private final Tape tape = new Tape();
    private Rights rights = new Rights();
    private Rights spareRights = new Rights();
    private int wrongByte = NONE;
    private final Shore[] shores = new Shore[MOST_SHORES];
    private int shoreCount;
    private final Family[] families = new Family[FAMILIES];
    private final Pit[] pits = new Pit[MOST_PITS];
    private int pitCount;
    private final Lot[] lots = new Lot[MOST_LOTS];
    private int lotCount;
    private final int[] tests = new int[MOST_TESTS];
    private final Store store = new Store();
    private final Forecast forecast = new Forecast();
    private int today;
    private int tideToday;

    public KelpShores() {
        for (int i = 0; i < families.length; i++) {
            families[i] = new Family();
        }
    }

    // ---- the tape and the rights

    public int feed(int a, int b, int c, int d, int e) {
        if (tape.length + FEED_BYTES > TAPE_ROOM) {
            return NONE;
        }
        tape.putNumber(a);
        tape.putNumber(b);
        tape.putNumber(c);
        tape.putNumber(d);
        tape.putNumber(e);
        return tape.length;
    }

    public boolean end(int n) {
        if (n < 0 || n > tape.length) {
            return false;
        }
        tape.length = n;
        return true;
    }

    public int rights() throws IllegalArgumentException {
        int parts = tape.partsRead(spareRights, shoreCount);
        tape.length = 0;
        wrongByte = parts == NONE ? tape.at : NONE;
        if (parts == NONE) {
            throw new IllegalArgumentException("the text of the rights is wrong");
        }
        Rights told = spareRights;
        spareRights = rights;
        rights = told;
        return parts;
    }

    public int fault() {
        return wrongByte;
    }

    public boolean may(int shore, int family, int day) throws IndexOutOfBoundsException {
        needShore(shore);
        needFamily(family);
        return rights.firstPart(shore, family, day) != NONE;
    }

    // ---- shores, rocks and families

    public int shore() throws UnsupportedOperationException {
        if (shoreCount >= shores.length) {
            throw new UnsupportedOperationException("there are as many shores as there may be");
        }
        shores[shoreCount] = new Shore();
        shoreCount++;
        return shoreCount - 1;
    }

    public int rock(int shore, int depth, int room)
            throws IndexOutOfBoundsException, IllegalArgumentException, UnsupportedOperationException {
        Shore its = needShore(shore);
        if (!isWithin(depth, 0, MOST_DEPTH) || !isWithin(room, 1, MOST_AMOUNT)) {
            throw new IllegalArgumentException("no such depth or room");
        }
        if (its.rockCount >= its.rocks.length) {
            throw new UnsupportedOperationException("the shore has as many rocks as it may have");
        }
        return its.addRock(new Rock(depth, room));
    }

    public void hands(int family, int n) throws IndexOutOfBoundsException, IllegalArgumentException {
        Family its = needFamily(family);
        if (!isWithin(n, 0, MOST_HANDS)) {
            throw new IllegalArgumentException("no such number of hands");
        }
        its.hands = n;
    }

    public int look(int shore, int rock, int what) throws IndexOutOfBoundsException, NoSuchElementException {
        Rock seen = needRock(needShore(shore), rock);
        switch (what) {
            case 0:
                return seen.weed;
            case 1:
                return seen.cutYear;
            case 2:
                return seen.grown;
            case 3:
                return seen.cutInAll;
            case 4:
                return seen.takenByStorms;
            default:
                throw new NoSuchElementException("nothing of a rock has this number");
        }
    }

    public int cast(int shore) throws IndexOutOfBoundsException {
        return needShore(shore).castWeed;
    }

    public int has(int family, int what) throws IndexOutOfBoundsException, NoSuchElementException {
        Family its = needFamily(family);
        switch (what) {
            case 0:
                return its.wet;
            case 1:
                return its.dry;
            case 2:
                return its.ash;
            case 3:
                return its.workLeft();
            case 4:
                return its.spoilt;
            case 5:
                return its.lost;
            case 6:
                return its.hands;
            default:
                throw new NoSuchElementException("nothing of a family has this number");
        }
    }

    public int owes(int family, int shore, int year) throws IndexOutOfBoundsException {
        Family debtor = needFamily(family);
        needShore(shore);
        return debtor.owedFor(shore, year);
    }

    // ---- a day, cutting and gathering

    public int day(int tide, int wind, int rain, int storm)
            throws IllegalArgumentException, UnsupportedOperationException {
        if (!isWeather(tide) || !isWeather(wind) || !isWeather(rain) || !isWeather(storm)) {
            throw new IllegalArgumentException("no such weather");
        }
        if (today >= LAST_DAY) {
            throw new UnsupportedOperationException("the last day has come");
        }
        today++;
        tideToday = tide;
        passOverShores(storm);
        passOverFamilies(wind, rain);
        passOverPits(rain);
        for (Family each : families) {
            each.worked = 0;
        }
        return today;
    }

    public int cut(int shore, int rock, int family, int n)
            throws IndexOutOfBoundsException, IllegalArgumentException {
        Rock cutRock = needRock(needShore(shore), rock);
        Family cutter = needFamily(family);
        needAmount(n);
        int part = rights.firstPart(shore, family, today % DAYS_A_YEAR);
        if (part == NONE) {
            return NO_RIGHT;
        }
        if (tideToday > cutRock.depth) {
            return TIDE_TOO_HIGH;
        }
        if (cutRock.mustRest(family, today, rights.rest)) {
            return ROCK_RESTS;
        }
        int against = againstTaking(n, cutRock.weed, cutter);
        if (against == NOTHING_AGAINST) {
            cutRock.loseToCutting(n, family, today);
            takeHome(cutter, shore, part, n);
        }
        return against;
    }

    public int gather(int shore, int family, int n) throws IndexOutOfBoundsException, IllegalArgumentException {
        Shore strand = needShore(shore);
        Family gatherer = needFamily(family);
        needAmount(n);
        int part = rights.firstPart(shore, family, today % DAYS_A_YEAR);
        if (part == NONE) {
            return NO_RIGHT;
        }
        int against = againstTaking(n, strand.castWeed, gatherer);
        if (against == NOTHING_AGAINST) {
            strand.castWeed -= n;
            takeHome(gatherer, shore, part, n);
        }
        return against;
    }

    // ---- pits

    public int pit(int family) throws IndexOutOfBoundsException, UnsupportedOperationException {
        Family owner = needFamily(family);
        if (pitCount >= pits.length) {
            throw new UnsupportedOperationException("there are as many pits as there may be");
        }
        pits[pitCount] = new Pit(owner);
        pitCount++;
        return pitCount - 1;
    }

    public boolean light(int pit, int load) throws IndexOutOfBoundsException, IllegalArgumentException {
        Pit lit = needPit(pit);
        if (!isWithin(load, LEAST_LOAD, MOST_AMOUNT)) {
            throw new IllegalArgumentException("no such load");
        }
        if (lit.daysLeft > 0 || lit.owner.dry < load) {
            return false;
        }
        lit.owner.dry -= load;
        lit.load = load;
        lit.daysLeft = BURNING_DAYS;
        return true;
    }

    public int burns(int pit) throws IndexOutOfBoundsException {
        return needPit(pit).daysLeft;
    }

    // ---- lots and the store

    public int sell(int family, int n, int many, int a, int b, int c, int d, int e)
            throws IndexOutOfBoundsException, IllegalArgumentException {
        Family seller = needFamily(family);
        needAmount(n);
        tests[0] = a;
        tests[1] = b;
        tests[2] = c;
        tests[3] = d;
        tests[4] = e;
        needTests(many);
        if (seller.ash < n || lotCount >= lots.length || store.isFull()) {
            return NONE;
        }
        sortTests(many);
        boolean doubted = tests[many - 1] - tests[0] > DOUBTED_ABOVE;
        int strength = doubted ? tests[0] : tests[(many - 1) / 2];
        int entry = store.addEntry(family, n * strength, today, today);
        seller.ash -= n;
        lots[lotCount] = new Lot(family, n, strength, doubted, entry);
        lotCount++;
        return lotCount - 1;
    }

    public int lot(int lot, int what) throws IndexOutOfBoundsException, NoSuchElementException {
        Lot sold = needLot(lot);
        switch (what) {
            case 0:
                return sold.family;
            case 1:
                return sold.amount;
            case 2:
                return sold.strength;
            case 3:
                return sold.doubted ? 1 : 0;
            case 4:
                return sold.amount * sold.strength;
            case 5:
                return sold.entry;
            default:
                throw new NoSuchElementException("nothing of a lot has this number");
        }
    }

    public int enter(int family, int money, int day) throws IndexOutOfBoundsException, IllegalArgumentException {
        needFamily(family);
        if (!isWithin(money, -MOST_MONEY, MOST_MONEY) || !isWithin(day, 0, LAST_DAY)) {
            throw new IllegalArgumentException("no such money or day");
        }
        return store.isFull() ? NONE : store.addEntry(family, money, day, today);
    }

    public boolean undo(int entry) throws IndexOutOfBoundsException {
        if (!store.hasEntry(entry)) {
            throw new IndexOutOfBoundsException("no such entry");
        }
        return store.takeBack(entry, today);
    }

    public int balance(int family, int day, int known) throws IndexOutOfBoundsException {
        needFamily(family);
        return store.sumKnown(family, day, known);
    }

    // ---- the plan, and counts

    public int foretell(boolean low, boolean windy, boolean rainy) {
        return forecast.addDay(low, windy, rainy) ? forecast.days : NONE;
    }

    public int plan() {
        int most = forecast.mostBurnt();
        forecast.days = 0;
        return most;
    }

    public int count(int what) {
        switch (what) {
            case 0:
                return today;
            case 1:
                return shoreCount;
            case 2:
                return pitCount;
            case 3:
                return burningPits();
            case 4:
                return lotCount;
            case 5:
                return store.size;
            case 6:
                return forecast.days;
            case 7:
                return rights.rest;
            case 8:
                return rights.size;
            default:
                return NONE;
        }
    }

    // ---- what the calls share

    private static boolean isWithin(int n, int least, int most) {
        return n >= least && n <= most;
    }

    private static boolean isWeather(int n) {
        return isWithin(n, 0, MOST_WEATHER);
    }

    private static void needAmount(int n) {
        if (!isWithin(n, 1, MOST_AMOUNT)) {
            throw new IllegalArgumentException("no such amount");
        }
    }

    private Shore needShore(int number) {
        Shore found = number < 0 || number >= shores.length ? null : shores[number];
        if (found == null) {
            throw new IndexOutOfBoundsException("no such shore");
        }
        return found;
    }

    private static Rock needRock(Shore shore, int number) {
        Rock found = number < 0 || number >= shore.rocks.length ? null : shore.rocks[number];
        if (found == null) {
            throw new IndexOutOfBoundsException("no such rock");
        }
        return found;
    }

    private Family needFamily(int number) {
        Family found = number < 0 || number >= families.length ? null : families[number];
        if (found == null) {
            throw new IndexOutOfBoundsException("no such family");
        }
        return found;
    }

    private Pit needPit(int number) {
        Pit found = number < 0 || number >= pits.length ? null : pits[number];
        if (found == null) {
            throw new IndexOutOfBoundsException("no such pit");
        }
        return found;
    }

    private Lot needLot(int number) {
        Lot found = number < 0 || number >= lots.length ? null : lots[number];
        if (found == null) {
            throw new IndexOutOfBoundsException("no such lot");
        }
        return found;
    }

    private void passOverShores(int storm) {
        boolean yearBegins = today % DAYS_A_YEAR == 0;
        for (Shore each : shores) {
            if (each != null) {
                each.passDay(yearBegins, storm);
            }
        }
    }

    private void passOverFamilies(int wind, int rain) {
        for (Family each : families) {
            if (rain >= RAIN_THAT_SPOILS) {
                each.spoilDry();
            }
            if (rain == 0) {
                each.dryWet(wind);
            }
        }
    }

    private void passOverPits(int rain) {
        for (Pit each : pits) {
            if (each != null && each.daysLeft > 0) {
                each.passDay(rain);
            }
        }
    }

    private int burningPits() {
        int burning = 0;
        for (Pit each : pits) {
            if (each != null && each.daysLeft > 0) {
                burning++;
            }
        }
        return burning;
    }

    private static int againstTaking(int n, int thereAre, Family taker) {
        if (n > thereAre) {
            return NOT_SO_MUCH;
        }
        return n > taker.workLeft() ? NOT_ENOUGH_WORK : NOTHING_AGAINST;
    }

    private void takeHome(Family taker, int shore, int part, int n) {
        taker.wet += n;
        taker.worked += n;
        taker.owe(shore, today / DAYS_A_YEAR, n * rights.shareOf(part) / MOST_SHARE);
    }

    private void needTests(int many) {
        boolean right = isWithin(many, LEAST_TESTS, MOST_TESTS);
        for (int i = 0; i < tests.length; i++) {
            right = right && (i >= many || isWithin(tests[i], 0, MOST_TEST));
        }
        if (!right) {
            throw new IllegalArgumentException("no such tests");
        }
    }

    private void sortTests(int many) {
        for (int round = 1; round < many; round++) {
            for (int i = 0; i + 1 < many && i + 1 < tests.length; i++) {
                int least = Math.min(tests[i], tests[i + 1]);
                tests[i + 1] = Math.max(tests[i], tests[i + 1]);
                tests[i] = least;
            }
        }
    }

    /** Who may cut where and when, as one text tells it. */
    private static final class Rights {
        private final int[] shoreOf = new int[MOST_RIGHTS];
        private final int[] familyOf = new int[MOST_RIGHTS];
        private final int[] firstDay = new int[MOST_RIGHTS];
        private final int[] lastDay = new int[MOST_RIGHTS];
        private final int[] share = new int[MOST_RIGHTS];
        private int size;
        private int rest = FIRST_REST;

        void forgetAll() {
            size = 0;
            rest = FIRST_REST;
        }

        void addPart(int shore, int family, int from, int to, int ofHundred) {
            if (size >= MOST_RIGHTS) {
                return;
            }
            shoreOf[size] = shore;
            familyOf[size] = family;
            firstDay[size] = from;
            lastDay[size] = to;
            share[size] = ofHundred;
            size++;
        }

        int firstPart(int shore, int family, int dayOfYear) {
            for (int i = 0; i < size && i < MOST_RIGHTS; i++) {
                if (shoreOf[i] == shore && familyOf[i] == family
                        && isWithin(dayOfYear, firstDay[i], lastDay[i])) {
                    return i;
                }
            }
            return NONE;
        }

        int shareOf(int part) {
            return part < 0 || part >= share.length ? 0 : share[part];
        }
    }

    /**
     * The bytes that are fed, and the reading of rights from them. What cannot stand in its place is
     * not taken, so that the reading stands then on the first wrong byte, or on the text's length if
     * more must come.
     */
    private static final class Tape {
        private final int[] bytes = new int[TAPE_ROOM];
        private int length;
        private int at;

        void putNumber(int number) {
            for (int shift = 24; shift >= 0 && length < bytes.length; shift -= 8) {
                bytes[length] = (number >>> shift) & 255;
                length++;
            }
        }

        /** How many parts were read; NONE if the text is wrong. */
        int partsRead(Rights told, int shores) {
            told.forgetAll();
            at = 0;
            for (int parts = 1; parts <= TAPE_ROOM; parts++) {
                if (!readsPart(told, shores)) {
                    return NONE;
                }
                skipBlanks();
                if (at >= length) {
                    return parts;
                }
                if (byteAt(at) != ';') {
                    return NONE;
                }
                at++;
            }
            return NONE;
        }

        private boolean readsPart(Rights told, int shores) {
            if (takesWord("rest")) {
                return readsRest(told);
            }
            return takesWord("shore") && readsRight(told, shores);
        }

        private boolean readsRest(Rights told) {
            int years = takenNumber(0, MOST_REST);
            if (years == NONE) {
                return false;
            }
            told.rest = years;
            return true;
        }

        private boolean readsRight(Rights told, int shores) {
            int shore = takenNumber(0, shores - 1);
            if (shore == NONE || !takesWord("family")) {
                return false;
            }
            int family = takenNumber(0, FAMILIES - 1);
            if (family == NONE || !takesWord("from")) {
                return false;
            }
            int from = takenNumber(0, DAYS_A_YEAR - 1);
            if (from == NONE || !takesWord("to")) {
                return false;
            }
            int to = takenNumber(from, DAYS_A_YEAR - 1);
            if (to == NONE || !takesWord("share")) {
                return false;
            }
            int share = takenNumber(0, MOST_SHARE);
            if (share == NONE) {
                return false;
            }
            told.addPart(shore, family, from, to, share);
            return true;
        }

        /** NONE behind the end, which is no sign of any thing: who reads on needs no test of its own. */
        private int byteAt(int place) {
            return place < 0 || place >= length || place >= bytes.length ? NONE : bytes[place];
        }

        private void skipBlanks() {
            while (at < length && byteAt(at) == ' ') {
                at++;
            }
        }

        private boolean takesWord(String word) {
            skipBlanks();
            int letters = word.length();
            for (int i = 0; i < letters; i++) {
                if (byteAt(at + i) != word.charAt(i)) {
                    return false;
                }
            }
            // a word goes on as long as letters do: "restx" is not "rest" with a thing behind it
            if (isWithin(byteAt(at + letters), 'a', 'z')) {
                return false;
            }
            at += letters;
            return true;
        }

        private int takenNumber(int least, int most) {
            skipBlanks();
            int digits = 0;
            int value = 0;
            // four digits are read at most: they tell already that the number is too long
            while (digits < 4 && isWithin(byteAt(at + digits), '0', '9')) {
                value = value * 10 + byteAt(at + digits) - '0';
                digits++;
            }
            if (digits < 1 || digits > 3 || !isWithin(value, least, most)) {
                return NONE;
            }
            at += digits;
            return value;
        }
    }

    private static final class Shore {
        private final Rock[] rocks = new Rock[MOST_ROCKS];
        private int rockCount;
        private int castWeed;

        int addRock(Rock rock) {
            if (rockCount >= rocks.length) {
                return NONE;
            }
            rocks[rockCount] = rock;
            rockCount++;
            return rockCount - 1;
        }

        void passDay(boolean yearBegins, int storm) {
            for (Rock each : rocks) {
                if (each == null) {
                    continue;
                }
                if (yearBegins) {
                    each.growAgain();
                }
                castWeed += each.loseToStorm(storm);
            }
        }
    }

    private static final class Rock {
        private final int depth;
        private final int room;
        private int weed;
        private int grown;
        private int cutInAll;
        private int takenByStorms;
        private int cutYear = NONE;
        private int cutDay = NONE;
        private int cutBy = NONE;

        Rock(int depth, int room) {
            this.depth = depth;
            this.room = room;
            weed = room;
            grown = room;
        }

        void growAgain() {
            int more = (room - weed + 3) / 4;
            weed += more;
            grown += more;
        }

        int loseToStorm(int storm) {
            int taken = depth > storm ? 0 : weed * storm / 100;
            weed -= taken;
            takenByStorms += taken;
            return taken;
        }

        boolean mustRest(int family, int today, int restYears) {
            boolean sameCutting = cutDay == today && cutBy == family;
            return cutYear != NONE && !sameCutting && today / DAYS_A_YEAR - cutYear <= restYears;
        }

        void loseToCutting(int n, int family, int today) {
            weed -= n;
            cutInAll += n;
            cutYear = today / DAYS_A_YEAR;
            cutDay = today;
            cutBy = family;
        }
    }

    private static final class Family {
        private final int[] owed = new int[YEARS * MOST_SHORES];
        private int hands = FIRST_HANDS;
        private int worked;
        private int wet;
        private int dry;
        private int ash;
        private int spoilt;
        private int lost;

        /** Hands may have become fewer than what the day's work took: none is left then. */
        int workLeft() {
            return Math.max(0, WORK_A_HAND * hands - worked);
        }

        void spoilDry() {
            int tenth = (dry + 9) / 10;
            dry -= tenth;
            spoilt += tenth;
        }

        void dryWet(int wind) {
            int dried = wet * wind / 10 / WET_FOR_ONE_DRY;
            wet -= dried * WET_FOR_ONE_DRY;
            dry += dried;
        }

        void owe(int shore, int year, int amount) {
            if (isOwedRow(shore, year)) {
                owed[year * MOST_SHORES + shore] += amount;
            }
        }

        int owedFor(int shore, int year) {
            return isOwedRow(shore, year) ? owed[year * MOST_SHORES + shore] : 0;
        }

        private static boolean isOwedRow(int shore, int year) {
            return isWithin(shore, 0, MOST_SHORES - 1) && isWithin(year, 0, YEARS - 1);
        }
    }

    private static final class Pit {
        private final Family owner;
        private int load;
        private int daysLeft;

        Pit(Family owner) {
            this.owner = owner;
        }

        void passDay(int rain) {
            if (rain >= RAIN_THAT_PUTS_OUT) {
                int saved = load / 2;
                owner.dry += saved;
                owner.lost += load - saved;
                daysLeft = 0;
            } else {
                daysLeft--;
                owner.ash += daysLeft == 0 ? load / 5 : 0;
            }
        }
    }

    private static final class Lot {
        private final int family;
        private final int amount;
        private final int strength;
        private final boolean doubted;
        private final int entry;

        Lot(int family, int amount, int strength, boolean doubted, int entry) {
            this.family = family;
            this.amount = amount;
            this.strength = strength;
            this.doubted = doubted;
            this.entry = entry;
        }
    }

    /** The store's entries, with the days from which and till which each is known. */
    private static final class Store {
        private final int[] familyOf = new int[MOST_ENTRIES];
        private final int[] money = new int[MOST_ENTRIES];
        private final int[] forDay = new int[MOST_ENTRIES];
        private final int[] toldOn = new int[MOST_ENTRIES];
        private final int[] takenBackOn = new int[MOST_ENTRIES];
        private int size;

        boolean isFull() {
            return size >= MOST_ENTRIES;
        }

        boolean hasEntry(int entry) {
            return entry >= 0 && entry < size && entry < MOST_ENTRIES;
        }

        int addEntry(int family, int amount, int day, int today) {
            if (isFull()) {
                return NONE;
            }
            familyOf[size] = family;
            money[size] = amount;
            forDay[size] = day;
            toldOn[size] = today;
            takenBackOn[size] = NONE;
            size++;
            return size - 1;
        }

        boolean takeBack(int entry, int today) {
            if (!hasEntry(entry) || takenBackOn[entry] != NONE) {
                return false;
            }
            takenBackOn[entry] = today;
            return true;
        }

        int sumKnown(int family, int day, int known) {
            int sum = 0;
            for (int i = 0; i < size && i < MOST_ENTRIES; i++) {
                if (familyOf[i] == family && forDay[i] <= day && wasKnown(i, known)) {
                    sum += money[i];
                }
            }
            return sum;
        }

        private boolean wasKnown(int entry, int known) {
            return hasEntry(entry) && toldOn[entry] <= known
                    && (takenBackOn[entry] == NONE || known < takenBackOn[entry]);
        }
    }

    /** The foretold days, and the most loads that can be burnt on them. */
    private static final class Forecast {
        private final boolean[] low = new boolean[MOST_FORETOLD];
        private final boolean[] windy = new boolean[MOST_FORETOLD];
        private final boolean[] rainy = new boolean[MOST_FORETOLD];
        private int days;
        /** By the number of wet loads, the most dry ones that there can be beside them; NONE if that cannot be. */
        private final int[] mostDry = new int[MOST_FORETOLD + 1];
        private final int[] dayBefore = new int[MOST_FORETOLD + 1];

        boolean addDay(boolean isLow, boolean isWindy, boolean isRainy) {
            if (days >= MOST_FORETOLD) {
                return false;
            }
            low[days] = isLow;
            windy[days] = isWindy;
            rainy[days] = isRainy;
            days++;
            return true;
        }

        /**
         * Dry loads wait unharmed, so the latest lighting can burn all that earlier ones would have:
         * no more than one lighting is weighed, and each day ahead of it is for cutting or drying.
         */
        int mostBurnt() {
            Arrays.fill(mostDry, NONE);
            mostDry[0] = 0;
            int most = 0;
            for (int day = 0; day < days && day < MOST_FORETOLD; day++) {
                if (isFair(day) && isFair(day + 1) && isFair(day + 2)) {
                    most = Math.max(most, greatestDry());
                }
                System.arraycopy(mostDry, 0, dayBefore, 0, mostDry.length);
                if (low[day]) {
                    weighCutting();
                }
                if (windy[day] && isFair(day)) {
                    weighDrying();
                }
            }
            return most;
        }

        private boolean isFair(int day) {
            return day >= 0 && day < days && day < MOST_FORETOLD && !rainy[day];
        }

        private int greatestDry() {
            int greatest = 0;
            for (int dry : mostDry) {
                greatest = Math.max(greatest, dry);
            }
            return greatest;
        }

        private void weighCutting() {
            for (int wet = 1; wet < mostDry.length && wet < dayBefore.length; wet++) {
                mostDry[wet] = Math.max(mostDry[wet], dayBefore[wet - 1]);
            }
        }

        private void weighDrying() {
            for (int wet = 0; wet < mostDry.length && wet + 1 < dayBefore.length; wet++) {
                if (dayBefore[wet + 1] != NONE) {
                    mostDry[wet] = Math.max(mostDry[wet], dayBefore[wet + 1] + 1);
                }
            }
        }
    }
}
