/**
 * Weathercocks at war: two parishes on one hill, and the brook is that one's whose cocks point more
 * the other's way. ../shared/DOC.md says what every call promises; its words in capitals are used
 * here too.
 *
 * Sets of COCKS, CELLS and WINDS are bits of an int, by number.
 */
public final class CockWar {
    public static final int UNKNOWN = -1, OUTSIDE = -2, STATE = -3, FULL = -4, NONE = -9;

    private static final int MOST_CELLS = 10;
    private static final int MOST_COCKS = 6;
    private static final int MOST_WINDS = 4;
    private static final int MOST_LETTERS = 64;
    private static final int MOST_ACTS = 14;
    private static final int MOST_SIGHTS = 6;
    private static final int MOST_SLOTS = 2;
    private static final int ALL_CELLS = (1 << MOST_CELLS) - 1;
    private static final long SEED_FACTOR = 6364136223846793005L;
    private static final long SEED_SUMMAND = 1442695040888963407L;

    private final Reader reader;
    private final Hill now;
    private final Air air;
    private final ActRow acts;
    private final Sights sights;
    private final Slots slots;
    private final Plan plan;
    /** Where winds blow that only might: what is asked changes nothing. */
    private final Hill trial;
    private long drawn;

    public CockWar() {
        reader = new Reader();
        now = new Hill();
        air = new Air();
        acts = new ActRow();
        sights = new Sights();
        slots = new Slots();
        plan = new Plan();
        trial = new Hill();
        drawn = 0;
    }

    // ---- the hill

    public int write(int letter) {
        if (letter < 0 || letter > 255) {
            return OUTSIDE;
        }
        return reader.append(letter);
    }

    public int wipe() {
        int was = reader.length;
        reader.length = 0;
        return was;
    }

    public int fault() {
        return reader.firstFault();
    }

    public int hill() {
        if (reader.firstFault() != NONE) {
            return STATE;
        }
        now.copyFrom(reader.ground);
        air.copyFrom(reader.air);
        acts.forget();
        slots.forget();
        return 10 * now.cocks + air.winds;
    }

    public int tree(int cell) {
        return isCell(cell) ? at(now.trees, cell) : OUTSIDE;
    }

    public int cock(int cock, int what) {
        if (!now.hasCock(cock)) {
            return UNKNOWN;
        }
        switch (what) {
            case 0: return at(now.cells, cock);
            case 1: return bit(now.parishes, cock);
            case 2: return at(now.heights, cock);
            case 3: return at(now.rusts, cock);
            case 4: return at(now.weights, cock);
            case 5: return bit(now.ways, cock);
            case 6: return bit(now.held, cock);
            default: return OUTSIDE;
        }
    }

    public int wind(int wind, int what) {
        if (!air.hasWind(wind)) {
            return UNKNOWN;
        }
        switch (what) {
            case 0: return at(air.goals, wind);
            case 1: return at(air.strengths, wind);
            case 2: return at(air.days, wind);
            case 3: return now.ways ^ air.waysBehind(now, wind, now.held, 0);
            default: return OUTSIDE;
        }
    }

    // ---- acts

    public int blow(int wind) {
        if (!air.hasWind(wind)) {
            return UNKNOWN;
        }
        acts.remember(now);
        return air.blowOver(now, wind);
    }

    public int fell(int cell) {
        if (!isCell(cell)) {
            return OUTSIDE;
        }
        int high = at(now.trees, cell);
        if (high == 0) {
            return STATE;
        }
        acts.remember(now);
        put(now.trees, cell, 0);
        return high;
    }

    public int move(int cock, int cell) {
        if (!now.hasCock(cock)) {
            return UNKNOWN;
        }
        if (!isCell(cell)) {
            return OUTSIDE;
        }
        if (bit(now.takenCells(), cell) == 1) {
            return STATE;
        }
        acts.remember(now);
        int was = at(now.cells, cock);
        put(now.cells, cock, cell);
        return was;
    }

    public int grease(int cock) {
        if (!now.hasCock(cock)) {
            return UNKNOWN;
        }
        int rust = at(now.rusts, cock);
        if (rust == 0) {
            return STATE;
        }
        acts.remember(now);
        put(now.rusts, cock, 0);
        return rust;
    }

    public int capture(int cock) {
        if (!now.hasCock(cock)) {
            return UNKNOWN;
        }
        acts.remember(now);
        now.parishes ^= 1 << cock;
        return bit(now.parishes, cock);
    }

    public int hold(int cock) {
        if (!now.hasCock(cock)) {
            return UNKNOWN;
        }
        acts.remember(now);
        now.held ^= 1 << cock;
        return bit(now.held, cock);
    }

    public int undo() {
        return acts.takeBack(now);
    }

    // ---- under winds

    public int under(int wind) {
        return air.hasWind(wind) ? air.brookUnder(now, wind, now.held, 0) : UNKNOWN;
    }

    public int year(int parish) {
        return isParish(parish) ? air.yearOf(now, parish, 0) : OUTSIDE;
    }

    public int placing(int parish, int what) {
        if (!isParish(parish) || what < 0 || what > 3) {
            return OUTSIDE;
        }
        plan.seek(now, air, parish);
        switch (what) {
            case 0: return plan.days;
            case 1: return plan.cock;
            case 2: return plan.cell;
            default: return plan.tree;
        }
    }

    public int trees(int parish, int wind) {
        if (!isParish(parish)) {
            return OUTSIDE;
        }
        if (!air.hasWind(wind)) {
            return UNKNOWN;
        }
        int standing = now.treeCells();
        int fewest = NONE;
        for (int felled = 0; felled <= ALL_CELLS; felled++) {
            boolean fewer = fewest == NONE || Integer.bitCount(felled) < Integer.bitCount(fewest);
            if (fewer && (felled & ~standing) == 0
                    && air.brookUnder(now, wind, now.held, felled) == parish) {
                fewest = felled;
            }
        }
        return fewest;
    }

    public int decides(int wind) {
        if (!air.hasWind(wind)) {
            return UNKNOWN;
        }
        int behind = air.waysBehind(now, wind, now.held, 0);
        int owner = now.brookBy(behind);
        int deciding = 0;
        for (int c = 0; c < now.cocks; c++) {
            if (now.brookBy(behind ^ 1 << c) != owner) {
                deciding |= 1 << c;
            }
        }
        return deciding;
    }

    public int power(int cock) {
        if (!now.hasCock(cock)) {
            return UNKNOWN;
        }
        int own = 1 << cock;
        int every = now.everyCock();
        int number = 0;
        for (int ways = 0; ways <= every; ways++) {
            if ((ways & own) == 0 && now.brookBy(ways) != now.brookBy(ways | own)) {
                number++;
            }
        }
        return number;
    }

    public int judge(int n, int row) {
        if (n < 1 || n > 6 || row < 0 || cutFigures(row, n) > 0) {
            return OUTSIDE;
        }
        trial.copyFrom(now);
        for (int place = 0; place < n; place++) {
            int wind = cutFigures(row, n - 1 - place) % 10;
            if (!air.hasWind(wind) || air.blowOver(trial, wind) != 0) {
                return place;
            }
        }
        return NONE;
    }

    // ---- seen, held

    public int see(int cock, int points) {
        if (!now.hasCock(cock)) {
            return UNKNOWN;
        }
        if (points < 0 || points > 1) {
            return OUTSIDE;
        }
        return sights.add(cock, points);
    }

    public int unsee() {
        int was = sights.number;
        sights.number = 0;
        return was;
    }

    public int strings(int wind, int what) {
        if (!air.hasWind(wind)) {
            return UNKNOWN;
        }
        if (what < 0 || what > 2) {
            return OUTSIDE;
        }
        int every = now.everyCock();
        int sets = 0;
        int inAll = every;
        int inSome = 0;
        for (int held = 0; held <= every; held++) {
            if (sights.agree(now, air.waysBehind(now, wind, held, 0))) {
                sets++;
                inAll &= held;
                inSome |= held;
            }
        }
        if (what == 0) {
            return sets;
        }
        if (sets == 0) {
            return NONE;
        }
        return what == 1 ? inAll : every & ~inSome;
    }

    public int winds() {
        int fitting = 0;
        for (int w = 0; w < air.winds; w++) {
            if (sights.agree(now, air.waysBehind(now, w, 0, 0))) {
                fitting |= 1 << w;
            }
        }
        return fitting;
    }

    public int rests(int wind, int what) {
        if (!air.hasWind(wind)) {
            return UNKNOWN;
        }
        if (what < 0 || what > 1) {
            return OUTSIDE;
        }
        int pairs = 0;
        int first = NONE;
        for (int a = 0; a <= now.cocks; a++) {
            for (int b = 0; b <= now.cocks; b++) {
                if (mayHold(0, a) && mayHold(1, b) && isAtRest(wind, a, b)) {
                    pairs++;
                    first = first == NONE ? 10 * a + b : first;
                }
            }
        }
        return what == 0 ? pairs : first;
    }

    // ---- chances

    public int frost(int wind, int x, boolean upper) {
        if (!air.hasWind(wind)) {
            return UNKNOWN;
        }
        if (x < 0 || x > 10) {
            return OUTSIDE;
        }
        int every = now.everyCock();
        int above = 0;
        for (int frozen = 0; frozen <= every; frozen++) {
            if (air.brookUnder(now, wind, now.held | frozen, 0) == 0) {
                above += waysToFreeze(frozen, x);
            }
        }
        int below = 1;
        for (int c = 0; c < now.cocks; c++) {
            below *= 10;
        }
        int shared = commonDivisor(below, above);
        if (shared < 1) {
            return upper ? above : below;
        }
        return upper ? above / shared : below / shared;
    }

    public long seed(long v) {
        long was = drawn;
        drawn = v;
        return was;
    }

    public int years(int m) {
        if (m < 1 || m > 30) {
            return OUTSIDE;
        }
        int inAll = air.daysInAll();
        if (inAll < 1) {
            return 0;
        }
        trial.copyFrom(now);
        int own = 0;
        for (int day = 0; day < m; day++) {
            drawn = drawn * SEED_FACTOR + SEED_SUMMAND;
            int left = (int) ((drawn >>> 33) % inAll);
            if (air.blowOver(trial, air.windOfDay(left)) == 0) {
                own++;
            }
        }
        return own;
    }

    // ---- slots

    public int keep(int slot) {
        return slots.store(slot, now);
    }

    public int again(int slot) {
        int went = slots.fetch(slot, now);
        if (went >= 0) {
            acts.forget();
        }
        return went;
    }

    public int count(int what) {
        switch (what) {
            case 0: return reader.length;
            case 1: return now.cocks;
            case 2: return air.winds;
            case 3: return now.brook;
            case 4: return now.days;
            case 5: return now.weightFor(0);
            case 6: return now.weightFor(1);
            case 7: return now.treeCells();
            case 8: return now.held;
            case 9: return acts.number;
            case 10: return sights.number;
            default: return OUTSIDE;
        }
    }

    /** A choice of RESTS is 0 for none, else the COCK's number and 1. */
    private boolean mayHold(int parish, int choice) {
        return choice == 0 || bit(now.parishes, choice - 1) == parish;
    }

    private int brookHeld(int wind, int a, int b) {
        // A choice of 0 shifts its bit out: nobody.
        return air.brookUnder(now, wind, 1 << a >> 1 | 1 << b >> 1, 0);
    }

    private boolean isAtRest(int wind, int a, int b) {
        int owner = brookHeld(wind, a, b);
        for (int other = 0; other <= now.cocks; other++) {
            if (owner == 1 && mayHold(0, other) && brookHeld(wind, other, b) == 0) {
                return false;
            }
            if (owner == 0 && mayHold(1, other) && brookHeld(wind, a, other) == 1) {
                return false;
            }
        }
        return true;
    }

    /** Of ten ways for each COCK: in how many these freeze, and the others don't. */
    private int waysToFreeze(int frozen, int x) {
        int ways = 1;
        for (int c = 0; c < now.cocks; c++) {
            ways *= bit(frozen, c) == 1 ? x : 10 - x;
        }
        return ways;
    }

    private static int commonDivisor(int more, int less) {
        int a = more;
        int b = less;
        // Numbers below 2^31 need fewer than 64 steps.
        for (int step = 0; step < 64 && b != 0; step++) {
            int left = a % b;
            a = b;
            b = left;
        }
        return a;
    }

    /** What is left of a number without its last figures. */
    private static int cutFigures(int number, int figures) {
        int left = number;
        for (int i = 0; i < figures; i++) {
            left /= 10;
        }
        return left;
    }

    private static boolean isCell(int cell) {
        return cell >= 0 && cell < MOST_CELLS;
    }

    private static boolean isParish(int parish) {
        return parish == 0 || parish == 1;
    }

    /** A cell beside the hill, -1 or 10, is in no set: -1 comes down to the sign, and no set is below 0. */
    private static int bit(int bits, int place) {
        return bits >> place & 1;
    }

    /** Beside a row there is nothing: 0. */
    private static int at(int[] row, int place) {
        return place >= 0 && place < row.length ? row[place] : 0;
    }

    private static void put(int[] row, int place, int number) {
        if (place >= 0 && place < row.length) {
            row[place] = number;
        }
    }

    private static void copyRow(int[] from, int[] to) {
        for (int i = 0; i < from.length && i < to.length; i++) {
            to[i] = from[i];
        }
    }

    /** All that ACTS change, and that SLOTS keep. */
    private static final class Hill {
        private final int[] trees = new int[MOST_CELLS];
        private final int[] cells = new int[MOST_COCKS];
        private final int[] heights = new int[MOST_COCKS];
        private final int[] rusts = new int[MOST_COCKS];
        private final int[] weights = new int[MOST_COCKS];
        private int cocks;
        /** The COCKS of PARISH 1. */
        private int parishes;
        /** The COCKS that point towards 9. */
        private int ways;
        private int held;
        private int brook;
        private int days;

        private void clear() {
            for (int c = 0; c < trees.length; c++) {
                trees[c] = 0;
            }
            cocks = 0;
            parishes = 0;
            ways = 0;
            held = 0;
            brook = 0;
            days = 0;
        }

        private void copyFrom(Hill from) {
            copyRow(from.trees, trees);
            copyRow(from.cells, cells);
            copyRow(from.heights, heights);
            copyRow(from.rusts, rusts);
            copyRow(from.weights, weights);
            cocks = from.cocks;
            parishes = from.parishes;
            ways = from.ways;
            held = from.held;
            brook = from.brook;
            days = from.days;
        }

        private void addCock(int cell, int parish, int height, int rust, int weight, int way) {
            put(cells, cocks, cell);
            put(heights, cocks, height);
            put(rusts, cocks, rust);
            put(weights, cocks, weight);
            parishes |= parish << cocks;
            ways |= way << cocks;
            cocks++;
        }

        private boolean hasCock(int cock) {
            return cock >= 0 && cock < cocks;
        }

        private int everyCock() {
            return (1 << cocks) - 1;
        }

        private int treeCells() {
            int bits = 0;
            for (int c = 0; c < trees.length; c++) {
                if (trees[c] > 0) {
                    bits |= 1 << c;
                }
            }
            return bits;
        }

        private int takenCells() {
            int bits = 0;
            for (int c = 0; c < cocks; c++) {
                bits |= 1 << at(cells, c);
            }
            return bits;
        }

        /** The COCKS that a WIND turns its way, nobody being HELD. */
        private int yieldingTo(int goal, int strength, int felled) {
            int bits = 0;
            for (int c = 0; c < cocks; c++) {
                int windward = at(cells, c) + (goal == 1 ? -1 : 1);
                int shelter = bit(felled, windward) == 1 ? 0 : at(trees, windward);
                if (strength > at(rusts, c) && shelter <= at(heights, c)) {
                    bits |= 1 << c;
                }
            }
            return bits;
        }

        /** Whose THE BROOK is when all point so; even, it stays whose it is. */
        private int brookBy(int pointing) {
            int lead = 0;
            // Towards 9 counts for PARISH 0, towards 0 for PARISH 1: where the two bits differ.
            int counting = pointing ^ parishes;
            for (int c = 0; c < cocks; c++) {
                int weight = bit(counting, c) == 1 ? at(weights, c) : 0;
                lead += bit(parishes, c) == 0 ? weight : -weight;
            }
            if (lead == 0) {
                return brook;
            }
            return lead > 0 ? 0 : 1;
        }

        private int weightFor(int parish) {
            int sum = 0;
            for (int c = 0; c < cocks; c++) {
                if (bit(parishes, c) == parish && bit(ways, c) != parish) {
                    sum += at(weights, c);
                }
            }
            return sum;
        }
    }

    /** The WINDS, and what they do to a hill. */
    private static final class Air {
        private final int[] goals = new int[MOST_WINDS];
        private final int[] strengths = new int[MOST_WINDS];
        private final int[] days = new int[MOST_WINDS];
        private int winds;

        private void copyFrom(Air from) {
            copyRow(from.goals, goals);
            copyRow(from.strengths, strengths);
            copyRow(from.days, days);
            winds = from.winds;
        }

        private void addWind(int goal, int strength, int inYear) {
            put(goals, winds, goal);
            put(strengths, winds, strength);
            put(days, winds, inYear);
            winds++;
        }

        private boolean hasWind(int wind) {
            return wind >= 0 && wind < winds;
        }

        /** How all COCKS point behind a WIND, if these are HELD and the TREES of these CELLS gone. */
        private int waysBehind(Hill ground, int wind, int held, int felled) {
            int goal = at(goals, wind);
            int turned = ground.yieldingTo(goal, at(strengths, wind), felled) & ~held;
            return goal == 1 ? ground.ways | turned : ground.ways & ~turned;
        }

        private int brookUnder(Hill ground, int wind, int held, int felled) {
            return ground.brookBy(waysBehind(ground, wind, held, felled));
        }

        private int blowOver(Hill ground, int wind) {
            ground.ways = waysBehind(ground, wind, ground.held, 0);
            ground.brook = ground.brookBy(ground.ways);
            ground.held = 0;
            ground.days++;
            return ground.brook;
        }

        private int yearOf(Hill ground, int parish, int felled) {
            int sum = 0;
            for (int w = 0; w < winds; w++) {
                if (brookUnder(ground, w, ground.held, felled) == parish) {
                    sum += at(days, w);
                }
            }
            return sum;
        }

        private int daysInAll() {
            int sum = 0;
            for (int w = 0; w < winds; w++) {
                sum += at(days, w);
            }
            return sum;
        }

        /** The WIND of a day, the WINDS' DAYS laid one behind the other. */
        private int windOfDay(int day) {
            int left = day;
            for (int w = 0; w < winds; w++) {
                left -= at(days, w);
                if (left < 0) {
                    return w;
                }
            }
            return 0;
        }
    }

    /** THE TEXT, and the hill and the winds that it tells as far as it was read. */
    private static final class Reader {
        private static final int BOTH = 0b11;
        private static final int TO_3 = 0b1111;
        private static final int TO_4 = 0b11111;
        private static final int TO_5 = 0b111111;
        private static final int FROM_1_TO_3 = 0b1110;
        private static final int FROM_1 = 0b1111111110;

        private final int[] letters = new int[MOST_LETTERS];
        private final Hill ground = new Hill();
        private final Air air = new Air();
        private int length;
        private int place;
        private boolean broken;

        private int append(int letter) {
            if (length >= MOST_LETTERS) {
                return FULL;
            }
            put(letters, length, letter);
            length++;
            return length;
        }

        private int firstFault() {
            ground.clear();
            air.winds = 0;
            place = 0;
            broken = length == 0 || at(letters, 0) != 'H';
            if (!broken) {
                place++;
            }
            for (int part = 0; part < MOST_LETTERS && !broken && place < length; part++) {
                readPart();
            }
            return broken ? place : NONE;
        }

        private void readPart() {
            int letter = at(letters, place);
            int treeless = ALL_CELLS & ~ground.treeCells();
            // With a TREE on every CELL no other can be told, whatever came behind its letter.
            if (letter == 'T' && treeless != 0) {
                place++;
                readTree(treeless);
            } else if (letter == 'C' && ground.cocks < MOST_COCKS) {
                place++;
                readCock();
            } else if (letter == 'W' && air.winds < MOST_WINDS) {
                place++;
                readWind();
            } else {
                broken = true;
            }
        }

        private void readTree(int treeless) {
            int cell = figure(treeless);
            int high = figure(FROM_1_TO_3);
            if (!broken) {
                put(ground.trees, cell, high);
            }
        }

        private void readCock() {
            int cell = figure(ALL_CELLS & ~ground.takenCells());
            int parish = figure(BOTH);
            int height = figure(TO_3);
            int rust = figure(TO_4);
            int weight = figure(FROM_1);
            int way = figure(BOTH);
            if (!broken) {
                ground.addCock(cell, parish, height, rust, weight, way);
            }
        }

        private void readWind() {
            int goal = figure(BOTH);
            int strength = figure(TO_5);
            int inYear = figure(FROM_1);
            if (!broken) {
                air.addWind(goal, strength, inYear);
            }
        }

        /** The next letter as one of the figures of these bits; else the place stays at the fault. */
        private int figure(int allowed) {
            int number = at(letters, place) - '0';
            if (broken || place >= length || number < 0 || number > 9 || bit(allowed, number) == 0) {
                broken = true;
                return 0;
            }
            place++;
            return number;
        }
    }

    /** THE ROW of ACTS: how all was ahead of each. */
    private static final class ActRow {
        private final Hill[] before = new Hill[MOST_ACTS];
        private int oldest;
        private int number;

        private ActRow() {
            for (int i = 0; i < before.length; i++) {
                before[i] = new Hill();
            }
        }

        private void forget() {
            number = 0;
        }

        private void remember(Hill now) {
            if (number == MOST_ACTS) {
                oldest = (oldest + 1) % MOST_ACTS;
                number--;
            }
            int next = (oldest + number) % MOST_ACTS;
            if (next >= 0 && next < before.length && before[next] != null) {
                before[next].copyFrom(now);
                number++;
            }
        }

        private int takeBack(Hill now) {
            if (number == 0) {
                return STATE;
            }
            int last = (oldest + number - 1) % MOST_ACTS;
            if (last >= 0 && last < before.length && before[last] != null) {
                now.copyFrom(before[last]);
                number--;
            }
            return number;
        }
    }

    /** All that is SEEN. */
    private static final class Sights {
        private final int[] cocks = new int[MOST_SIGHTS];
        private final int[] ways = new int[MOST_SIGHTS];
        private int number;

        private int add(int cock, int way) {
            if (number >= MOST_SIGHTS) {
                return FULL;
            }
            put(cocks, number, cock);
            put(ways, number, way);
            number++;
            return number;
        }

        private boolean agree(Hill ground, int pointing) {
            for (int i = 0; i < number; i++) {
                int cock = at(cocks, i);
                if (ground.hasCock(cock) && bit(pointing, cock) != at(ways, i)) {
                    return false;
                }
            }
            return true;
        }
    }

    private static final class Slots {
        private final Hill[] kept = new Hill[MOST_SLOTS];
        private int filled;

        private Slots() {
            for (int i = 0; i < kept.length; i++) {
                kept[i] = new Hill();
            }
        }

        private void forget() {
            filled = 0;
        }

        private int store(int slot, Hill now) {
            if (slot < 0 || slot >= kept.length || kept[slot] == null) {
                return UNKNOWN;
            }
            kept[slot].copyFrom(now);
            filled |= 1 << slot;
            return now.days;
        }

        private int fetch(int slot, Hill now) {
            if (slot < 0 || slot >= kept.length || kept[slot] == null) {
                return UNKNOWN;
            }
            if (bit(filled, slot) == 0) {
                return STATE;
            }
            now.copyFrom(kept[slot]);
            return now.days;
        }
    }

    /** PLACING: the first of the best plans, in the order in which like ones are preferred. */
    private static final class Plan {
        private final Hill trial = new Hill();
        private int days;
        private int cock;
        private int cell;
        private int tree;

        private void seek(Hill now, Air air, int parish) {
            days = -1;
            trial.copyFrom(now);
            tryTrees(air, parish, NONE, NONE);
            int taken = now.takenCells();
            for (int c = 0; c < now.cocks; c++) {
                for (int goal = 0; goal < MOST_CELLS; goal++) {
                    if (bit(now.parishes, c) == parish && bit(taken, goal) == 0) {
                        put(trial.cells, c, goal);
                        tryTrees(air, parish, c, goal);
                    }
                }
                put(trial.cells, c, at(now.cells, c));
            }
        }

        private void tryTrees(Air air, int parish, int mover, int goal) {
            tryOne(air.yearOf(trial, parish, 0), mover, goal, NONE);
            for (int c = 0; c < MOST_CELLS; c++) {
                if (at(trial.trees, c) > 0) {
                    tryOne(air.yearOf(trial, parish, 1 << c), mover, goal, c);
                }
            }
        }

        private void tryOne(int year, int mover, int goal, int felled) {
            if (year > days) {
                days = year;
                cock = mover;
                cell = goal;
                tree = felled;
            }
        }
    }
}
