/**
 * A town besieged by cooking: its streets, lanes, gates, winds and dishes, the days of the siege,
 * and what may be reckoned from them. Every call answers an int or a long; what is not as told is
 * refused by BAD, NO or FULL and counted.
 */
public final class KitchenSiege {
    public static final int NONE = -1, BAD = -2, NO = -3, FULL = -4;

    private static final int STREETS = 8, DISHES = 6, SMELLS = 6, KINDS = 6, WINDS = 4;
    private static final int NOTES = 6, UNDOS = 8, IMAGES = 2, BYTES = 150;
    private static final int MOST_WALL = 9, MOST_STRONG = 30, MOST_BUTTER = 9, MOST_SHEETS = 9;
    private static final int MOST_NOTED = 60, LAST_NOTED_DAY = 99, MOST_RAIN = 10;
    private static final int MOST_SEED = 999999, MOST_SIEGE = 60, LAST_BYTE = 127;
    private static final int FALL_DAYS = 30, NEVER_DAYS = 28, TOWN_DAYS = 4, LONGEST_ROW = 4;
    private static final int OPENS_AT = 10, LOSS_BY_LANE = 2;
    private static final int BAD_TEN = -10, NOT_SO_MANY = -5, THE_BUTTER = -2, FAULT_FROM = -10;

    private final Town now;
    private final Cook cook;
    private final Reader reader;
    private final Fraction fraction;
    private final Town[] images;
    private final boolean[] kept;
    private int bads;
    private int noes;
    private int fulls;

    public KitchenSiege() {
        now = new Town();
        cook = new Cook(now);
        reader = new Reader();
        fraction = new Fraction();
        images = new Town[IMAGES];
        for (int i = 0; i < images.length; i++) {
            images[i] = new Town();
        }
        kept = new boolean[IMAGES];
    }

    // ---- a town

    public int town() {
        int had = now.streets;
        now.begin();
        return had;
    }

    public int street(int kind, int wall, int craves) {
        if (!within(kind, 0, KINDS - 1) || !within(wall, 0, MOST_WALL) || !within(craves, 0, SMELLS - 1)) {
            return bad();
        }
        int street = now.addStreet(kind, wall, craves);
        return street == NONE ? full() : street;
    }

    public int lane(int a, int b) {
        if (!isStreet(a) || !isStreet(b) || a == b) {
            return bad();
        }
        if (now.hasLane(a, b)) {
            return no();
        }
        now.addLane(a, b);
        return 1;
    }

    public int gate(int w, int street) {
        if (!isWind(w) || !isStreet(street)) {
            return bad();
        }
        int was = now.gates[w];
        now.gates[w] = street;
        return was;
    }

    public int wind(int i, int w) {
        if (!isWind(i) || !isWind(w)) {
            return bad();
        }
        int was = now.winds[i];
        now.winds[i] = w;
        return was;
    }

    public int dish(int smell, int strong, int butter) {
        if (!within(smell, 0, SMELLS - 1) || !within(strong, 1, MOST_STRONG) || !within(butter, 0, MOST_BUTTER)) {
            return bad();
        }
        int dish = now.addDish(smell, strong, butter);
        return dish == NONE ? full() : dish;
    }

    public int type(int c) {
        if (!within(c, 0, LAST_BYTE)) {
            return bad();
        }
        int bytes = reader.put(c);
        return bytes == NONE ? full() : bytes;
    }

    public int clear() {
        int had = reader.length;
        reader.length = 0;
        return had;
    }

    public int read() {
        int fault = reader.parse();
        if (fault != NONE) {
            return FAULT_FROM - fault;
        }
        now.copy(reader.draft);
        return reader.items;
    }

    // ---- days

    public int day(int dish) {
        if (dish != NONE && !isDish(dish)) {
            return bad();
        }
        now.keepDays();
        return cook.pass(now.days, dish);
    }

    public int undo() {
        return now.goBack() ? now.days.day : no();
    }

    public int of(int street, int what) {
        if (!isStreet(street)) {
            return badTen();
        }
        switch (what) {
            case 0: return now.kind[street];
            case 1: return now.wall[street];
            case 2: return now.craves[street];
            case 3: return now.days.since[street];
            case 4: return now.days.smelt[street];
            case 5: return now.days.onEnd[street];
            default: return badTen();
        }
    }

    public int smells(int dish, int w, int street) {
        if (!isDish(dish) || !isWind(w) || !isStreet(street)) {
            return bad();
        }
        return cook.strength(dish, w, street);
    }

    public int moved(int dish, int street) {
        if (!isDish(dish) || !isStreet(street)) {
            return bad();
        }
        return cook.pullNow(dish, street);
    }

    // ---- what to cook

    public int falls(int dish, int street) {
        if (!isDish(dish) || !isStreet(street)) {
            return bad();
        }
        return cook.daysToFall(dish, street);
    }

    public int order(int street, int i) {
        if (!isStreet(street) || i < THE_BUTTER) {
            return badTen();
        }
        int length = cook.findRow(street);
        if (length == NONE || i == NONE) {
            return length;
        }
        if (i == THE_BUTTER) {
            return cook.bestButter;
        }
        return i < length && i < LONGEST_ROW ? cook.best[i] : NOT_SO_MANY;
    }

    public int never() {
        return cook.neverOpened();
    }

    public int least() {
        return cook.leastSet();
    }

    public int answer(int dish, int n, int what) {
        if (!isDish(dish) || !within(n, 0, MOST_SHEETS) || !within(what, 0, 1)) {
            return bad();
        }
        int street = cook.bestSheets(dish, n);
        if (street == NONE || what == 0) {
            return street;
        }
        return cook.opening(dish, street, n);
    }

    public int game(int n) {
        if (!within(n, 0, MOST_SHEETS)) {
            return bad();
        }
        return cook.restingPairs(n);
    }

    // ---- who craved what

    public int note(int street, int smell, int strong, int day, int opened) {
        if (!isStreet(street) || !within(smell, 0, SMELLS - 1) || !isNoted(strong, day) || !within(opened, 0, 1)) {
            return bad();
        }
        int notes = now.notes.add(street, smell, strong, day, opened);
        return notes == NONE ? full() : notes;
    }

    public int forget() {
        int had = now.notes.size;
        now.notes.size = 0;
        return had;
    }

    public int craved(int street) {
        if (!isStreet(street)) {
            return bad();
        }
        return now.notes.cravings(street, now.kind[street]);
    }

    public int is(int street) {
        if (!isStreet(street)) {
            return bad();
        }
        int kinds = 0;
        for (int kind = 0; kind < KINDS; kind++) {
            if (now.notes.cravings(street, kind) != 0) {
                kinds |= 1 << kind;
            }
        }
        return kinds;
    }

    public int tryNext(int street, int strong, int day) {
        if (!isStreet(street) || !isNoted(strong, day)) {
            return bad();
        }
        return now.notes.bestTrial(street, now.kind[street], strong, day);
    }

    public int rain(int dish, int c, int n) {
        if (!isDish(dish) || !within(c, 0, MOST_RAIN) || !within(n, 0, STREETS)) {
            return bad();
        }
        fraction.chance(cook.opening(dish, NONE, 0), n, c);
        return 1;
    }

    public int sieges(int seed, int n) {
        if (!within(seed, 0, MOST_SEED) || !within(n, 0, MOST_SIEGE)) {
            return bad();
        }
        return cook.openAfter(seed, n);
    }

    // ---- what there is

    public long part(int what) {
        switch (what) {
            case 0: return fraction.above;
            case 1: return fraction.below;
            default: return bad();
        }
    }

    public int image(int i) {
        if (!isImage(i)) {
            return bad();
        }
        images[i].copy(now);
        kept[i] = true;
        return 1;
    }

    public int from(int i) {
        if (!isImage(i)) {
            return bad();
        }
        if (!kept[i]) {
            return no();
        }
        now.copy(images[i]);
        return 1;
    }

    public int status(int what) {
        switch (what) {
            case 0: return bads;
            case 1: return noes;
            case 2: return fulls;
            default:
                bad();
                return -1;
        }
    }

    public int count(int what) {
        switch (what) {
            case 0: return now.streets;
            case 1: return now.dishes;
            case 2: return now.days.day;
            case 3: return now.days.openOf(now.streets);
            case 4: return now.notes.size;
            case 5: return now.undoable;
            case 6: return reader.length;
            default: return bad();
        }
    }

    public long digest() {
        long h = 1069;
        for (int what = 0; what <= 6; what++) {
            h = mix(h, count(what));
        }
        h = now.mixStreets(h);
        h = now.mixLanes(h);
        h = mixAll(h, now.gates);
        h = mixAll(h, now.winds);
        h = now.mixDishes(h);
        h = now.notes.mixNotes(h);
        return mix(mix(h, fraction.above), fraction.below);
    }

    private int bad() {
        bads++;
        return BAD;
    }

    private int badTen() {
        bads++;
        return BAD_TEN;
    }

    private int no() {
        noes++;
        return NO;
    }

    private int full() {
        fulls++;
        return FULL;
    }

    private boolean isStreet(int street) {
        return within(street, 0, now.streets - 1);
    }

    private boolean isDish(int dish) {
        return within(dish, 0, now.dishes - 1);
    }

    private static boolean isWind(int w) {
        return within(w, 0, WINDS - 1);
    }

    private static boolean isImage(int i) {
        return within(i, 0, IMAGES - 1);
    }

    private static boolean isNoted(int strong, int day) {
        return within(strong, 1, MOST_NOTED) && within(day, 0, LAST_NOTED_DAY);
    }

    private static boolean within(int value, int low, int high) {
        return value >= low && value <= high;
    }

    private static boolean has(int bits, int i) {
        return (bits >> i & 1) == 1;
    }

    private static long mix(long h, long value) {
        return 31 * h + value;
    }

    private static long mixAll(long h, int[] values) {
        for (int i = 0; i < values.length; i++) {
            h = mix(h, values[i]);
        }
        return h;
    }

    /** How much a smell moves a nose, by the nose's kind. */
    private static final class Nose {
        private static final int PLAIN = 0, COLD = 1, ONION_EATERS = 2, PIOUS = 3, BAKERS = 4, HOMESICK = 5;
        private static final int ONION = 0, WEEK = 7, FAST_DAY = 5, FLOUR = 3, BY_DAY_OF_HOME = 2;

        /** What is craved is an argument: the notes ask by what their street need not crave. */
        static int pull(int kind, int craves, int smell, int strong, int day, int ahead) {
            int plain = smell == craves ? 2 * strong : strong;
            int cold = plain / 2;
            int onionEaters = smell == ONION ? 0 : plain;
            switch (kind) {
                case PLAIN: return plain;
                case COLD: return cold;
                case ONION_EATERS: return onionEaters;
                case PIOUS: return day % WEEK == FAST_DAY ? 0 : plain;
                case BAKERS: return onionEaters > FLOUR ? onionEaters - FLOUR : 0;
                case HOMESICK: return cold > 0 ? cold + BY_DAY_OF_HOME * ahead : 0;
                default: return 0;
            }
        }

        static boolean opensAlone(int kind, int craves, int smell, int strong, int day) {
            return pull(kind, craves, smell, strong, day, 0) >= OPENS_AT;
        }
    }

    /** What the days have done to the streets: all that one day changes, and that can be undone. */
    private static final class Days {
        int day;
        final int[] since = new int[STREETS];
        final int[] smelt = new int[STREETS];
        final int[] onEnd = new int[STREETS];

        void begin() {
            day = 0;
            for (int street = 0; street < STREETS; street++) {
                since[street] = NONE;
                smelt[street] = NONE;
                onEnd[street] = 0;
            }
        }

        void copy(Days other) {
            day = other.day;
            System.arraycopy(other.since, 0, since, 0, STREETS);
            System.arraycopy(other.smelt, 0, smelt, 0, STREETS);
            System.arraycopy(other.onEnd, 0, onEnd, 0, STREETS);
        }

        boolean isShut(int street) {
            return since[street] == NONE;
        }

        int openOf(int streets) {
            int open = 0;
            for (int street = 0; street < streets; street++) {
                if (!isShut(street)) {
                    open++;
                }
            }
            return open;
        }

        /** On how many days on end this smell was there until now. */
        int ahead(int street, int smell) {
            return smelt[street] == smell ? onEnd[street] : 0;
        }

        void smellAfter(int street, int smell, int strength) {
            if (strength > 0) {
                onEnd[street] = ahead(street, smell) + 1;
                smelt[street] = smell;
            } else {
                onEnd[street] = 0;
                smelt[street] = NONE;
            }
        }
    }

    /** The notes on who opened, as they came. */
    private static final class Notes {
        int size;
        private final int[] streets = new int[NOTES];
        private final int[] smells = new int[NOTES];
        private final int[] strengths = new int[NOTES];
        private final int[] days = new int[NOTES];
        private final int[] opened = new int[NOTES];

        void copy(Notes other) {
            size = other.size;
            System.arraycopy(other.streets, 0, streets, 0, NOTES);
            System.arraycopy(other.smells, 0, smells, 0, NOTES);
            System.arraycopy(other.strengths, 0, strengths, 0, NOTES);
            System.arraycopy(other.days, 0, days, 0, NOTES);
            System.arraycopy(other.opened, 0, opened, 0, NOTES);
        }

        /** How many there are then; NONE if there is no room. */
        int add(int street, int smell, int strong, int day, int open) {
            if (size >= NOTES) {
                return NONE;
            }
            streets[size] = street;
            smells[size] = smell;
            strengths[size] = strong;
            days[size] = day;
            opened[size] = open;
            size++;
            return size;
        }

        /** The smells, as bits, that a street of this kind may crave so that all its notes are so. */
        int cravings(int street, int kind) {
            int bits = 0;
            for (int craves = 0; craves < SMELLS; craves++) {
                if (allSo(street, kind, craves)) {
                    bits |= 1 << craves;
                }
            }
            return bits;
        }

        private boolean allSo(int street, int kind, int craves) {
            for (int i = 0; i < size; i++) {
                if (streets[i] == street) {
                    boolean opens = Nose.opensAlone(kind, craves, smells[i], strengths[i], days[i]);
                    if (opens != (opened[i] == 1)) {
                        return false;
                    }
                }
            }
            return true;
        }

        /** The smell whose trial leaves least in doubt at the worst. */
        int bestTrial(int street, int kind, int strong, int day) {
            int may = cravings(street, kind);
            if (may == 0) {
                return NONE;
            }
            int best = NONE;
            int bestLeft = SMELLS + 1;
            for (int smell = 0; smell < SMELLS; smell++) {
                int open = openers(may, kind, smell, strong, day);
                int left = Math.max(open, Integer.bitCount(may) - open);
                if (left < bestLeft) {
                    best = smell;
                    bestLeft = left;
                }
            }
            return best;
        }

        private static int openers(int may, int kind, int smell, int strong, int day) {
            int open = 0;
            for (int craves = 0; craves < SMELLS; craves++) {
                if (has(may, craves) && Nose.opensAlone(kind, craves, smell, strong, day)) {
                    open++;
                }
            }
            return open;
        }

        long mixNotes(long h) {
            for (int i = 0; i < size; i++) {
                h = mix(mix(mix(h, streets[i]), smells[i]), strengths[i]);
                h = mix(mix(h, days[i]), opened[i]);
            }
            return h;
        }
    }

    /** All that an image keeps: the town, its days and what may be undone of them, the notes. */
    private static final class Town {
        int streets;
        final int[] kind = new int[STREETS];
        final int[] wall = new int[STREETS];
        final int[] craves = new int[STREETS];
        /** Of each street the streets beside it, as bits. */
        final int[] beside = new int[STREETS];
        final int[] gates = new int[WINDS];
        final int[] winds = new int[WINDS];
        int dishes;
        final int[] smell = new int[DISHES];
        final int[] strong = new int[DISHES];
        final int[] butter = new int[DISHES];
        final Notes notes = new Notes();
        final Days days = new Days();
        /** The days that may be undone, the last of them at undoable - 1. */
        private final Days[] past = new Days[UNDOS];
        int undoable;

        Town() {
            for (int i = 0; i < past.length; i++) {
                past[i] = new Days();
            }
            begin();
        }

        void begin() {
            streets = 0;
            dishes = 0;
            notes.size = 0;
            undoable = 0;
            days.begin();
            for (int w = 0; w < WINDS; w++) {
                gates[w] = 0;
                winds[w] = w;
            }
            for (int street = 0; street < STREETS; street++) {
                beside[street] = 0;
            }
        }

        void copy(Town other) {
            streets = other.streets;
            dishes = other.dishes;
            undoable = other.undoable;
            System.arraycopy(other.kind, 0, kind, 0, STREETS);
            System.arraycopy(other.wall, 0, wall, 0, STREETS);
            System.arraycopy(other.craves, 0, craves, 0, STREETS);
            System.arraycopy(other.beside, 0, beside, 0, STREETS);
            System.arraycopy(other.gates, 0, gates, 0, WINDS);
            System.arraycopy(other.winds, 0, winds, 0, WINDS);
            System.arraycopy(other.smell, 0, smell, 0, DISHES);
            System.arraycopy(other.strong, 0, strong, 0, DISHES);
            System.arraycopy(other.butter, 0, butter, 0, DISHES);
            notes.copy(other.notes);
            days.copy(other.days);
            for (int i = 0; i < undoable && i < UNDOS; i++) {
                past[i].copy(other.past[i]);
            }
        }

        /** Its number; NONE if there is no room. */
        int addStreet(int itsKind, int itsWall, int itCraves) {
            if (streets >= STREETS) {
                return NONE;
            }
            int street = streets;
            kind[street] = itsKind;
            wall[street] = itsWall;
            craves[street] = itCraves;
            streets++;
            // The past days know nothing of the new street.
            undoable = 0;
            return street;
        }

        boolean hasLane(int a, int b) {
            return has(beside[a], b);
        }

        void addLane(int a, int b) {
            beside[a] |= 1 << b;
            beside[b] |= 1 << a;
        }

        /** Its number; NONE if there is no room. */
        int addDish(int itsSmell, int itsStrong, int itsButter) {
            if (dishes >= DISHES) {
                return NONE;
            }
            int dish = dishes;
            smell[dish] = itsSmell;
            strong[dish] = itsStrong;
            butter[dish] = itsButter;
            dishes++;
            return dish;
        }

        int windOn(int day) {
            return winds[Math.floorMod(day, WINDS)];
        }

        /** The street into which a wind blows first; NONE if it is not there. */
        int gateOf(int w) {
            int gate = w >= 0 && w < WINDS ? gates[w] : NONE;
            return gate < streets ? gate : NONE;
        }

        int pull(int street, int dish, int strength, int day, int ahead) {
            return Nose.pull(kind[street], craves[street], smell[dish], strength, day, ahead);
        }

        int shutStreets() {
            int bits = 0;
            for (int street = 0; street < streets; street++) {
                if (days.isShut(street)) {
                    bits |= 1 << street;
                }
            }
            return bits;
        }

        /** Keeps the days as they are, to be gone back to; the oldest of too many is lost. */
        void keepDays() {
            if (undoable >= UNDOS) {
                Days oldest = past[0];
                for (int i = 1; i < UNDOS; i++) {
                    past[i - 1] = past[i];
                }
                past[UNDOS - 1] = oldest;
                undoable = UNDOS - 1;
            }
            past[undoable].copy(days);
            undoable++;
        }

        /** Whether there was a day to go back to. */
        boolean goBack() {
            if (undoable <= 0) {
                return false;
            }
            undoable--;
            days.copy(past[undoable]);
            return true;
        }

        long mixStreets(long h) {
            for (int street = 0; street < streets; street++) {
                h = mix(mix(mix(h, kind[street]), wall[street]), craves[street]);
                h = mix(mix(mix(h, days.since[street]), days.smelt[street]), days.onEnd[street]);
            }
            return h;
        }

        long mixLanes(long h) {
            for (int a = 0; a < STREETS; a++) {
                for (int b = a + 1; b < STREETS; b++) {
                    h = mix(h, hasLane(a, b) ? 1 : 0);
                }
            }
            return h;
        }

        long mixDishes(long h) {
            for (int dish = 0; dish < dishes; dish++) {
                h = mix(mix(mix(h, smell[dish]), strong[dish]), butter[dish]);
            }
            return h;
        }
    }

    /** How strong one dish stands in each street by one wind. */
    private static final class Air {
        final int[] strength = new int[STREETS];
        private final int[] walls = new int[STREETS];

        void empty() {
            for (int street = 0; street < STREETS; street++) {
                strength[street] = 0;
            }
        }

        void fill(Town town, int dish, int w) {
            fillWithSheets(town, dish, w, NONE, 0);
        }

        /** The street that is hung may be NONE. */
        void fillWithSheets(Town town, int dish, int w, int hung, int sheets) {
            empty();
            int gate = town.gateOf(w);
            if (gate < 0) {
                return;
            }
            for (int street = 0; street < STREETS; street++) {
                walls[street] = town.wall[street] + (street == hung ? sheets : 0);
            }
            strength[gate] = Math.max(0, town.strong[dish] - walls[gate]);
            boolean more = true;
            for (int round = 0; more && round < STREETS; round++) {
                more = spread(town);
            }
        }

        /** One step by every lane; whether any street smells more by it. */
        private boolean spread(Town town) {
            boolean more = false;
            for (int a = 0; a < town.streets; a++) {
                int beside = strength[a] > LOSS_BY_LANE ? town.beside[a] : 0;
                for (int b = 0; b < town.streets; b++) {
                    int comes = strength[a] - LOSS_BY_LANE - walls[b];
                    if (has(beside, b) && comes > strength[b]) {
                        strength[b] = comes;
                        more = true;
                    }
                }
            }
            return more;
        }
    }

    /** What is reckoned from a town, which it never changes but for the days that pass is given. */
    private static final class Cook {
        private static final int SIDES = DISHES + 1, ANSWERS = STREETS + 1;
        private static final long SEED_TIMES = 1103515245, SEED_MORE = 12345, SEED_OF = 2147483648L;
        private static final long SEED_CUT = 65536, SEED_DISHES = 7;

        /** The row that findRow found, and what it costs. */
        final int[] best = new int[LONGEST_ROW];
        int bestButter;

        private final Town town;
        private final Air air = new Air();
        private final Days trial = new Days();
        private final int[] row = new int[LONGEST_ROW];
        /** How strong each dish stands in one street, by the days from now on. */
        private final int[] ahead = new int[DISHES * WINDS];
        private final int[] opened = new int[DISHES];
        private final int[] duel = new int[SIDES * ANSWERS];

        Cook(Town ofTown) {
            town = ofTown;
        }

        /** A day with a dish, or none; the streets that open, as bits. */
        int pass(Days days, int dish) {
            if (dish == NONE) {
                air.empty();
            } else {
                air.fill(town, dish, town.windOn(days.day));
            }
            int smell = dish == NONE ? NONE : town.smell[dish];
            int bits = dish == NONE ? 0 : openingBits(days, dish);
            for (int street = 0; street < town.streets; street++) {
                if (has(bits, street)) {
                    days.since[street] = days.day;
                }
                days.smellAfter(street, smell, air.strength[street]);
            }
            days.day++;
            return bits;
        }

        /** The shut streets that open by what is in the air. */
        private int openingBits(Days days, int dish) {
            int bits = 0;
            for (int street = 0; street < town.streets; street++) {
                if (days.isShut(street) && pullFromAir(days, dish, street) >= OPENS_AT) {
                    bits |= 1 << street;
                }
            }
            return bits;
        }

        private int pullFromAir(Days days, int dish, int street) {
            int smeltAhead = days.ahead(street, town.smell[dish]);
            return town.pull(street, dish, air.strength[street], days.day, smeltAhead);
        }

        int strength(int dish, int w, int street) {
            air.fill(town, dish, w);
            return air.strength[street];
        }

        int pullNow(int dish, int street) {
            air.fill(town, dish, town.windOn(town.days.day));
            return pullFromAir(town.days, dish, street);
        }

        int daysToFall(int dish, int street) {
            if (!town.days.isShut(street)) {
                return 0;
            }
            measure(dish, street);
            int smeltAhead = town.days.ahead(street, town.smell[dish]);
            for (int k = 0; k < FALL_DAYS; k++) {
                int strength = ahead[dish * WINDS + k % WINDS];
                if (town.pull(street, dish, strength, town.days.day + k, smeltAhead) >= OPENS_AT) {
                    return k + 1;
                }
                smeltAhead = strength > 0 ? smeltAhead + 1 : 0;
            }
            return NONE;
        }

        private void measure(int dish, int street) {
            for (int k = 0; k < WINDS; k++) {
                air.fill(town, dish, town.windOn(town.days.day + k));
                ahead[dish * WINDS + k] = air.strength[street];
            }
        }

        /** The shortest, then cheapest, then first row that opens a street: its length, or NONE. */
        int findRow(int street) {
            bestButter = 0;
            if (!town.days.isShut(street)) {
                return 0;
            }
            for (int dish = 0; dish < town.dishes; dish++) {
                measure(dish, street);
            }
            int rows = 1;
            for (int length = 1; length <= LONGEST_ROW; length++) {
                rows *= town.dishes;
                if (findRowOf(length, rows, street)) {
                    return length;
                }
            }
            return NONE;
        }

        /** Goes through the rows of one length in their order; the shorter ones have all failed. */
        private boolean findRowOf(int length, int rows, int street) {
            boolean found = false;
            for (int number = 0; number < rows; number++) {
                if (!lay(number, length) || !opensLast(street, length)) {
                    continue;
                }
                int butter = 0;
                for (int place = 0; place < length; place++) {
                    butter += town.butter[row[place]];
                }
                if (!found || butter < bestButter) {
                    found = true;
                    bestButter = butter;
                    System.arraycopy(row, 0, best, 0, LONGEST_ROW);
                }
            }
            return found;
        }

        /** Lays the row of this number, each place a figure to the base of the dishes; false if a dish comes twice. */
        private boolean lay(int number, int length) {
            int left = number;
            int used = 0;
            for (int place = length - 1; place >= 0 && town.dishes > 0; place--) {
                int dish = left % town.dishes;
                left /= town.dishes;
                if (has(used, dish)) {
                    return false;
                }
                used |= 1 << dish;
                row[place] = dish;
            }
            return true;
        }

        /** Whether a street opens on the last day of the row; on none ahead it does, as no shorter row opens it. */
        private boolean opensLast(int street, int length) {
            int smelt = town.days.smelt[street];
            int onEnd = town.days.onEnd[street];
            int pull = 0;
            for (int place = 0; place < length; place++) {
                int dish = row[place];
                int smell = town.smell[dish];
                int strength = ahead[dish * WINDS + place];
                int smeltAhead = smell == smelt ? onEnd : 0;
                pull = town.pull(street, dish, strength, town.days.day + place, smeltAhead);
                smelt = strength > 0 ? smell : NONE;
                onEnd = strength > 0 ? smeltAhead + 1 : 0;
            }
            return pull >= OPENS_AT;
        }

        int neverOpened() {
            int left = town.shutStreets();
            for (int dish = 0; dish < town.dishes; dish++) {
                left &= ~openedAlone(dish, NEVER_DAYS);
            }
            return left;
        }

        /** The streets that a dish opens alone on one of the next days, as bits. */
        private int openedAlone(int dish, int days) {
            int bits = 0;
            for (int first = 0; first < WINDS; first++) {
                air.fill(town, dish, town.windOn(town.days.day + first));
                for (int k = first; k < days; k += WINDS) {
                    bits |= openedAloneOn(dish, town.days.day + k);
                }
            }
            return bits;
        }

        private int openedAloneOn(int dish, int day) {
            int bits = 0;
            for (int street = 0; street < town.streets; street++) {
                if (town.pull(street, dish, air.strength[street], day, 0) >= OPENS_AT) {
                    bits |= 1 << street;
                }
            }
            return bits;
        }

        int leastSet() {
            int shut = town.shutStreets();
            for (int dish = 0; dish < town.dishes; dish++) {
                opened[dish] = openedAlone(dish, TOWN_DAYS);
            }
            int leastBits = NONE;
            int leastButter = 0;
            for (int set = 0; set < 1 << town.dishes; set++) {
                if ((shut & ~openedBy(set)) != 0) {
                    continue;
                }
                int butter = butterOf(set);
                boolean fewer = Integer.bitCount(set) < Integer.bitCount(leastBits);
                if (leastBits == NONE || butter < leastButter || butter == leastButter && fewer) {
                    leastBits = set;
                    leastButter = butter;
                }
            }
            return leastBits;
        }

        private int openedBy(int set) {
            int bits = 0;
            for (int dish = 0; dish < town.dishes; dish++) {
                if (has(set, dish)) {
                    bits |= opened[dish];
                }
            }
            return bits;
        }

        private int butterOf(int set) {
            int butter = 0;
            for (int dish = 0; dish < town.dishes; dish++) {
                if (has(set, dish)) {
                    butter += town.butter[dish];
                }
            }
            return butter;
        }

        /** How many streets open now by a dish, or none, with sheets in one street, or in none. */
        int opening(int dish, int hung, int sheets) {
            if (dish == NONE) {
                return 0;
            }
            air.fillWithSheets(town, dish, town.windOn(town.days.day), hung, sheets);
            return Integer.bitCount(openingBits(town.days, dish));
        }

        int bestSheets(int dish, int sheets) {
            int bestStreet = NONE;
            int fewest = STREETS + 1;
            for (int street = 0; street < town.streets; street++) {
                if (town.days.isShut(street)) {
                    int open = opening(dish, street, sheets);
                    if (open < fewest) {
                        bestStreet = street;
                        fewest = open;
                    }
                }
            }
            return bestStreet;
        }

        int restingPairs(int sheets) {
            // Both sides start at NONE: no dish, no street hung.
            for (int dish = NONE; dish < town.dishes; dish++) {
                for (int hung = NONE; hung < town.streets; hung++) {
                    duel[pair(dish, hung)] = opening(dish, hung, sheets);
                }
            }
            int pairs = 0;
            for (int dish = NONE; dish < town.dishes; dish++) {
                for (int hung = NONE; hung < town.streets; hung++) {
                    if (rests(dish, hung)) {
                        pairs++;
                    }
                }
            }
            return pairs;
        }

        private static int pair(int dish, int hung) {
            return (dish + 1) * ANSWERS + hung + 1;
        }

        private boolean rests(int dish, int hung) {
            int open = duel[pair(dish, hung)];
            for (int other = NONE; other < town.dishes; other++) {
                if (duel[pair(other, hung)] > open) {
                    return false;
                }
            }
            for (int other = NONE; other < town.streets; other++) {
                if (duel[pair(dish, other)] < open) {
                    return false;
                }
            }
            return true;
        }

        int openAfter(int seed, int n) {
            trial.copy(town.days);
            long x = seed;
            for (int k = 0; k < n; k++) {
                x = (x * SEED_TIMES + SEED_MORE) % SEED_OF;
                int dish = (int) (x / SEED_CUT % SEED_DISHES);
                pass(trial, dish < town.dishes ? dish : NONE);
            }
            return trial.openOf(town.streets);
        }
    }

    /** THE FRACTION, in lowest terms. */
    private static final class Fraction {
        private static final int OF = 10;

        long above = 0;
        long below = 1;

        /** That n or more of so many streets open, each of them apart kept shut by c of 10. */
        void chance(int streets, int n, int c) {
            long ways = 0;
            for (int open = n; open <= streets; open++) {
                ways += choices(streets, open) * power(OF - c, open) * power(c, streets - open);
            }
            long all = power(OF, streets);
            long common = commonPart(ways, all);
            if (common > 0) {
                above = ways / common;
                below = all / common;
            }
        }

        private static long choices(int of, int taken) {
            long ways = 1;
            for (int i = 1; i <= taken; i++) {
                ways = ways * (of - taken + i) / i;
            }
            return ways;
        }

        private static long power(int base, int times) {
            long product = 1;
            for (int i = 0; i < times; i++) {
                product *= base;
            }
            return product;
        }

        private static long commonPart(long a, long b) {
            for (int i = 0; b != 0 && i < 100; i++) {
                long left = a % b;
                a = b;
                b = left;
            }
            return a;
        }
    }

    /** THE TEXT, and the town that it tells. */
    private static final class Reader {
        private static final int END = 0, WORD = 1, NUMBER = 2, SEMICOLON = 3, WRONG = 4;
        private static final int NO_WORD = 0, TOWN = 1, STREET = 2, LANE = 3, GATE = 4, WIND = 5, DISH = 6;
        private static final int MOST_FIGURES = 2;

        int length;
        int items;
        final Town draft = new Town();

        private final int[] text = new int[BYTES];
        private int fault;
        private int place;
        private int start;
        private int token;
        private int value;

        /** How many bytes there are then; NONE if there is no room. */
        int put(int c) {
            if (length >= BYTES) {
                return NONE;
            }
            text[length] = c;
            length++;
            return length;
        }

        /** Tells the town in the draft; the fault, or NONE. */
        int parse() {
            draft.begin();
            items = 0;
            place = 0;
            fault = NONE;
            take();
            if (token == END) {
                fault = start;
            }
            for (int i = 0; token != END && fault == NONE && i < BYTES; i++) {
                item();
                take();
            }
            return fault;
        }

        private void item() {
            int word = token == WORD ? word() : NO_WORD;
            if (!mayStand(word)) {
                fault = start;
                return;
            }
            switch (word) {
                case STREET: streetItem(); break;
                case LANE: laneItem(); break;
                case GATE: gateItem(); break;
                case WIND: windItem(); break;
                case DISH: dishItem(); break;
                default: endItem(); break;
            }
            items++;
        }

        private boolean mayStand(int word) {
            switch (word) {
                case NO_WORD: return false;
                case TOWN: return items == 0;
                case STREET: return items > 0 && draft.streets < STREETS;
                case DISH: return items > 0 && draft.dishes < DISHES;
                default: return items > 0;
            }
        }

        private void streetItem() {
            int kind = number(0, KINDS - 1);
            int wall = number(0, MOST_WALL);
            int craves = number(0, SMELLS - 1);
            if (endItem()) {
                draft.addStreet(kind, wall, craves);
            }
        }

        private void laneItem() {
            int a = number(0, draft.streets - 1);
            int b = number(0, draft.streets - 1);
            if (fault == NONE && a == b) {
                fault = start;
            }
            if (endItem()) {
                draft.addLane(a, b);
            }
        }

        private void gateItem() {
            int w = number(0, WINDS - 1);
            int street = number(0, draft.streets - 1);
            if (endItem()) {
                draft.gates[w] = street;
            }
        }

        private void windItem() {
            int i = number(0, WINDS - 1);
            int w = number(0, WINDS - 1);
            if (endItem()) {
                draft.winds[i] = w;
            }
        }

        private void dishItem() {
            int smell = number(0, SMELLS - 1);
            int strong = number(1, MOST_STRONG);
            int butter = number(0, MOST_BUTTER);
            if (endItem()) {
                draft.addDish(smell, strong, butter);
            }
        }

        /** The next token as a number; what it answers behind a fault is not used. */
        private int number(int low, int high) {
            if (fault == NONE) {
                take();
                if (token != NUMBER || !within(value, low, high)) {
                    fault = start;
                }
            }
            return value;
        }

        private boolean endItem() {
            if (fault == NONE) {
                take();
                if (token != SEMICOLON) {
                    fault = start;
                }
            }
            return fault == NONE;
        }

        /** Takes the next token; at the end its start is the text's length. */
        private void take() {
            while (place < length && text[place] == ' ') {
                place++;
            }
            start = place;
            if (place >= length) {
                token = END;
            } else if (isLetter(text[place])) {
                token = WORD;
                while (place < length && isLetter(text[place])) {
                    place++;
                }
            } else if (isFigure(text[place])) {
                value = 0;
                while (place < length && isFigure(text[place])) {
                    // Of a number too long the value is not used; it is kept from running over.
                    if (place - start < MOST_FIGURES) {
                        value = 10 * value + text[place] - '0';
                    }
                    place++;
                }
                token = place - start > MOST_FIGURES ? WRONG : NUMBER;
            } else {
                token = text[place] == ';' ? SEMICOLON : WRONG;
                place++;
            }
        }

        private int word() {
            if (spells("town")) {
                return TOWN;
            }
            if (spells("street")) {
                return STREET;
            }
            if (spells("lane")) {
                return LANE;
            }
            if (spells("gate")) {
                return GATE;
            }
            if (spells("wind")) {
                return WIND;
            }
            return spells("dish") ? DISH : NO_WORD;
        }

        private boolean spells(String word) {
            if (place - start != word.length()) {
                return false;
            }
            for (int i = 0; i < word.length(); i++) {
                if (text[start + i] != word.charAt(i)) {
                    return false;
                }
            }
            return true;
        }

        private static boolean isLetter(int c) {
            return c >= 'a' && c <= 'z';
        }

        private static boolean isFigure(int c) {
            return c >= '0' && c <= '9';
        }
    }
}
