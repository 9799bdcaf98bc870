import java.math.BigInteger;

/** Promises 28 to 33: chances, slots, counts. */
final class ChanceEdges {
    private static final int UNKNOWN = Due.UNKNOWN, OUTSIDE = Due.OUTSIDE, STATE = Due.STATE;
    private static final int LOW = Due.LOW, HIGH = Due.HIGH;
    private static final String SIX = "HC000010C100010C200010C300010C400010C500010";
    /** Six cocks of PARISH 1; each must turn, or it has the brook. */
    private static final String ALL_MUST = "HC010010C110010C210010C310010C410010C510010W111";

    private ChanceEdges() {}

    static void tell(Edges e) {
        e.promise(28);
        frost(e);
        frostRefused(e);
        e.promise(29);
        seed(e);
        e.promise(30);
        years(e);
        yearsChange(e);
        e.promise(31);
        keep(e);
        e.promise(32);
        again(e);
        e.promise(33);
        count(e);
    }

    private static void fraction(Due t, CockWar x, int wind, int tenths, int above, int below) {
        String call = "frost(" + wind + "," + tenths + ",";
        t.due(call + "true)", x.frost(wind, tenths, true), above);
        t.due(call + "false)", x.frost(wind, tenths, false), below);
    }

    private static void frost(Edges e) {
        e.says("FROST.");
        e.edge("certain without cocks", t -> fraction(t, Due.on("HW111"), 0, 5, 1, 1))
                .brokenIn("frost", "int below = 1;", "int below = 10;")
                .brokenIn("frost", "int frozen = 0", "int frozen = 1");
        e.edge("of six cocks, in millionths", t -> {
            fraction(t, Due.on(ALL_MUST), 0, 1, 531441, 1000000);
            fraction(t, Due.on(ALL_MUST), 0, 9, 1, 1000000);
            fraction(t, Due.on(ALL_MUST), 0, 5, 1, 64);
        }).brokenIn("frost", "below *= 10;", "below = Math.min(100000, below * 10);")
                .brokenIn("waysToFreeze", "c < now.cocks", "c < Math.min(5, now.cocks)");
        e.says("FRACTIONS are told above (upper = true), below (1 and more), in least terms;");
        e.edge("no chance is 0 of 1", t -> {
            fraction(t, Due.on("HC413490W111"), 0, 4, 0, 1);
            fraction(t, Due.on(ALL_MUST), 0, 10, 0, 1);
        }).brokenIn("commonDivisor", "return a;", "return less == 0 ? 1 : a;");
        e.edge("a sure chance is 1 of 1", t -> {
            fraction(t, Due.on("HC400090W111"), 0, 4, 1, 1);
            fraction(t, Due.on(ALL_MUST), 0, 0, 1, 1);
        }).brokenIn("frost", "int shared = commonDivisor(below, above);",
                "int shared = Math.min(commonDivisor(below, above), 1000);")
                .brokenIn("frost", "upper ? above / shared : below / shared", "upper ? above / shared : below");
        e.edge("in least terms", t -> {
            CockWar x = Due.on("HC410010W111");
            int[] above = {1, 9, 4, 7, 3, 1, 2, 3, 1, 1, 0}, below = {1, 10, 5, 10, 5, 2, 5, 10, 5, 10, 1};
            for (int tenths = 0; tenths <= 10; tenths++) fraction(t, x, 0, tenths, above[tenths], below[tenths]);
        }).brokenIn("commonDivisor", "return a;", "return a % 2 == 0 ? a / 2 : a;")
                .brokenIn("commonDivisor", "return a;", "return a % 5 == 0 ? a / 5 : a;");
        e.says("FROST by x tenths (0 to 10): each COCK, each for itself, stays as it points by x of ten");
        e.edge("by 0 none stays, by 10 all do", t -> {
            CockWar x = Due.on("HC400050C510030W111W011");
            x.blow(0);
            fraction(t, x, 1, 0, 0, 1);
            fraction(t, x, 1, 10, 1, 1);
            // PARISH 1's 3 counts unless it stays; then even stays PARISH 0's, and the 5 counts if it stays.
            fraction(t, x, 1, 3, 51, 100);
        }).brokenIn("waysToFreeze", "? x : 10 - x", "? 10 - x : x")
                .brokenIn("waysToFreeze", "? x : 10 - x", "? Math.max(1, x) : 10 - x")
                .brokenIn("waysToFreeze", "? x : 10 - x", "? Math.min(9, x) : 10 - x");
        e.says("(who is HELD does so anyway):");
        e.edge("who is held stays by 0 of ten too", t -> {
            CockWar x = Due.on("HC410010W111");
            fraction(t, x, 0, 0, 1, 1);
            x.hold(0);
            fraction(t, x, 0, 0, 0, 1);
            fraction(t, x, 0, 7, 0, 1);
        }).brokenIn("frost", "now.held | frozen", "frozen");
        e.says("the chance that THE BROOK would be PARISH 0's UNDER a WIND: a FRACTION.");
        e.edge("even, it stays whose it is", t -> {
            CockWar x = Due.on("HC400031C510030W001");
            fraction(t, x, 0, 5, 1, 1);
            x.capture(0);
            x.blow(0);
            x.capture(0);
            fraction(t, x, 0, 5, 0, 1);
        }).brokenIn("brookBy", "return brook;", "return 0;").brokenIn("brookBy", "return brook;", "return 1;");
        e.edge("who is in the lee of a tree stays without frost, on whatever cell it stands", t -> {
            for (int tree = 0; tree <= 9; tree++) fraction(t, Due.on(Due.lee(tree, 5, 3)), 0, 0, tree < 9 ? 0 : 1, 1);
        }).brokenIn("frost", "now.held | frozen, 0)", "now.held | frozen, 1)")
                .brokenIn("frost", "now.held | frozen, 0)", "now.held | frozen, 2)").brokenIn("frost", "now.held | frozen, 0)", "now.held | frozen, 512)");
        e.edge("under each wind its own", t -> {
            for (int number = 0; number < 4; number++) {
                CockWar x = Due.on(Due.oneTo0("HC400050C510030", number));
                for (int w = 0; w < 4; w++) fraction(t, x, w, 0, w == number ? 0 : 1, 1);
            }
        }).brokenIn("frost", "air.brookUnder(now, wind,", "air.brookUnder(now, 0,");
        e.edge("it only might freeze", t -> {
            t.asksOnly("frost(0,5,true)", x -> x.frost(0, 5, true));
            t.asksOnly("frost(1,10,false)", x -> x.frost(1, 10, false));
        }).brokenIn("frost", "int above = 0;", "int above = 0;\n now.held = every;");
    }

    private static void frostRefused(Edges e) {
        e.says("UNKNOWN;");
        e.edge("-1 and less are no wind", t -> {
            t.refused("frost(-1,5,true)", UNKNOWN, x -> x.frost(-1, 5, true));
            t.refused("frost(LOW,5,false)", UNKNOWN, x -> x.frost(LOW, 5, false));
        }).brokenIn("hasWind", "wind >= 0", "wind >= -1");
        e.edge("there is no wind behind the last", t -> {
            t.refused("frost(2,5,true)", UNKNOWN, x -> x.frost(2, 5, true));
            t.refused("frost(HIGH,5,false)", UNKNOWN, x -> x.frost(HIGH, 5, false));
            t.refused("frost(0,0,true) of a new object", UNKNOWN, CockWar::new, x -> x.frost(0, 0, true));
        }).brokenIn("hasWind", "wind < winds", "wind <= winds");
        e.says("OUTSIDE: x.");
        e.edge("-1 and less are no tenths", t -> {
            t.refused("frost(0,-1,true)", OUTSIDE, x -> x.frost(0, -1, true));
            t.refused("frost(0,LOW,true)", OUTSIDE, x -> x.frost(0, LOW, true));
        }).brokenIn("frost", "x < 0", "x < -1");
        e.edge("11 and more are too many tenths", t -> {
            t.refused("frost(0,11,true)", OUTSIDE, x -> x.frost(0, 11, true));
            t.refused("frost(0,HIGH,true)", OUTSIDE, x -> x.frost(0, HIGH, true));
        }).brokenIn("frost", "x > 10", "x > 11");
        e.says("refusals of them are told likewise.");
        e.edge("what is below is refused like what is above", t -> {
            t.refused("frost(2,5,false)", UNKNOWN, x -> x.frost(2, 5, false));
            t.refused("frost(0,11,false)", OUTSIDE, x -> x.frost(0, 11, false));
            t.refused("frost(0,-1,false)", OUTSIDE, x -> x.frost(0, -1, false));
        }).brokenIn("frost", "return OUTSIDE;", "return upper ? OUTSIDE : 1;")
                .brokenIn("frost", "return UNKNOWN;", "return upper ? UNKNOWN : 1;");
        e.says("REFUSALS, of several the first that a call names");
        e.edge("UNKNOWN goes ahead of OUTSIDE", t -> {
            t.refused("frost(2,11,true)", UNKNOWN, x -> x.frost(2, 11, true));
            t.refused("frost(-1,-1,false)", UNKNOWN, x -> x.frost(-1, -1, false));
        }).brokenIn("frost", "!air.hasWind(wind)", "!air.hasWind(wind) && x >= 0 && x <= 10");
    }

    private static void seed(Edges e) {
        e.says("THE SEED is v: what it was.");
        e.edge("the least long, the greatest, and those beside 0", t -> {
            CockWar x = new CockWar();
            long[] seeds = {0, Long.MIN_VALUE, Long.MAX_VALUE, -1, 1, 1L << 32, Integer.MIN_VALUE, 0};
            for (int i = 1; i < seeds.length; i++) t.due("seed(" + seeds[i] + ")", x.seed(seeds[i]), seeds[i - 1]);
        }).brokenIn("seed", "drawn = v;", "drawn = (int) v;")
                .brokenIn("seed", "drawn = v;", "drawn = Math.abs(v);")
                .brokenIn("seed", "drawn = v;", "drawn = Math.max(v, -Long.MAX_VALUE);")
                .brokenIn("seed", "return was;", "return v;");
        e.edge("all else stays", t -> {
            CockWar x = Due.busy();
            x.seed(5);
            x.seed(77);
            t.same("seed(5) and seed(77)", x, Due.busy());
        }).brokenIn("seed", "return was;", "acts.forget();\n return was;");
    }

    private static final BigInteger TO_64 = BigInteger.ONE.shiftLeft(64);

    private static BigInteger drawnBehind(BigInteger seed) {
        return seed.multiply(new BigInteger("6364136223846793005")).add(new BigInteger("1442695040888963407"))
                .mod(TO_64);
    }

    /** On how many of so many days what is left of so many is one of the first. */
    private static int drawn(long seed, int m, int inAll, int first) {
        BigInteger drawn = BigInteger.valueOf(seed).mod(TO_64);
        int own = 0;
        for (int day = 0; day < m; day++) {
            drawn = drawnBehind(drawn);
            if (drawn.shiftRight(33).mod(BigInteger.valueOf(inAll)).intValue() < first) own++;
        }
        return own;
    }

    private static final long[] SEEDS = {0, 1, -1, 77, Long.MIN_VALUE, Long.MAX_VALUE, -5000000000L, 123456789123456789L};

    private static void years(Edges e) {
        e.says("YEARS by THE SEED: m DAYS (1 to 30), from now on, one behind the other:");
        e.edge("one day, and thirty", t -> {
            CockWar x = Due.on("HC400051W004");
            t.due("years(1)", x.years(1), 1);
            t.due("years(30)", x.years(30), 30);
            t.due("PARISH 1's for ever", Due.on("HC413490W119").years(30), 0);
        }).brokenIn("years", "m < 1", "m < 2").brokenIn("years", "m > 30", "m > 29")
                .brokenIn("years", "day < m", "day < Math.min(m, 29)");
        e.edge("a day goes on from the one ahead of it", t -> {
            // Once WIND 0 blew both point towards 9 for ever.
            for (long seed : SEEDS) {
                CockWar x = Due.on("HC410030C500010W111W001");
                x.seed(seed);
                int late = 0;
                while (late < 30 && drawn(seed, late + 1, 2, 1) == 0) late++;
                t.due("years(30) by " + seed, x.years(30), 30 - late);
            }
        }).brokenIn("years", "air.blowOver(trial, air.windOfDay(left))",
                "air.brookUnder(now, air.windOfDay(left), now.held, 0)");
        e.edge("who is held now is so on the first day", t -> {
            CockWar x = Due.on("HC410030C500010W111");
            x.hold(0);
            t.due("years(1)", x.years(1), 0);
            t.due("years(30)", x.years(30), 29);
        }).brokenIn("years", "trial.copyFrom(now);", "trial.copyFrom(now);\n trial.held = 0;")
                .brokenIn("blowOver", "ground.held = 0;", "");
        e.says("for each x (THE SEED, a long; 0 at first) becomes x times 6364136223846793005 and "
                + "1442695040888963407 (64 bits, wrapping);");
        e.edge("it wraps at 64 bits, and goes on", t -> {
            for (long seed : SEEDS) {
                CockWar x = Due.on("HW111");
                x.seed(seed);
                BigInteger want = BigInteger.valueOf(seed).mod(TO_64);
                for (int m = 1; m <= 3; m++) {
                    x.years(m);
                    for (int i = 0; i < m; i++) want = drawnBehind(want);
                    t.due("seed behind years(" + m + ")", x.seed(want.longValue()), want.longValue());
                }
            }
        }).brokenIn("years", "drawn * SEED_FACTOR + SEED_SUMMAND", "(drawn + SEED_SUMMAND) * SEED_FACTOR")
                .brokenIn("years", "drawn * SEED_FACTOR + SEED_SUMMAND", "(drawn * SEED_FACTOR + SEED_SUMMAND) & Long.MAX_VALUE")
                .brokenIn("", "SEED_FACTOR = 6364136223846793005L", "SEED_FACTOR = 6364136223846793003L")
                .brokenIn("", "SEED_SUMMAND = 1442695040888963407L", "SEED_SUMMAND = 1442695040888963405L");
        e.says("its upper 31 bits by DAYS of all WINDS together, what is left tells the WIND (by number, each its DAYS), "
                + "which BLOWS: on how many THE BROOK is PARISH 0's behind it");
        e.edge("the days of each wind by its number, of few days and of 36", t -> {
            String[] winds = {"W111W011", "W111W019", "W119W011", "W112W115W012W013", "W119W119W019W019"};
            int[] inAll = {2, 10, 10, 12, 36}, first = {1, 1, 9, 7, 18};
            for (int i = 0; i < winds.length; i++) {
                for (long seed : SEEDS) {
                    CockWar x = Due.on("HC400050C510030" + winds[i]);
                    x.seed(seed);
                    t.due("years(30) by " + seed + " of " + winds[i], x.years(30), drawn(seed, 30, inAll[i], first[i]));
                }
            }
        }).brokenIn("years", "drawn >>> 33", "drawn >>> 32")
                .brokenIn("years", "drawn >>> 33", "drawn >>> 34")
                .brokenIn("years", "drawn >>> 33", "(drawn >> 33 & Long.MAX_VALUE)")
                .brokenIn("windOfDay", "left < 0", "left <= 0")
                .brokenIn("windOfDay", "left -= at(days, w);", "left -= 1;")
                .brokenIn("daysInAll", "return sum;", "return Math.min(sum, 35);");
        e.edge("even, it stays PARISH 0's, or PARISH 1's", t -> {
            CockWar x = Due.on("HC400031C510030W001");
            t.due("PARISH 0's", x.years(30), 30);
            x.capture(0);
            x.blow(0);
            x.capture(0);
            t.due("PARISH 1's", x.years(30), 0);
        }).brokenIn("brookBy", "return brook;", "return 0;").brokenIn("brookBy", "return brook;", "return 1;");
        e.says("YEARS.");
        e.edge("thirty days at once are like thirty times one, if no day changes the next", t -> {
            CockWar x = Due.on("HC400050C510030W112W013"), y = Due.on("HC400050C510030W112W013");
            int sum = 0;
            for (int day = 0; day < 30; day++) sum += y.years(1);
            t.due("years(30)", x.years(30), sum);
            t.due("seed", x.seed(0), y.seed(0));
        }).brokenIn("years", "int day = 0; day < m", "int day = -1; day < m");
    }

    private static void yearsChange(Edges e) {
        e.says("(without WINDS: 0, nothing is drawn).");
        e.edge("without winds", t -> {
            CockWar x = Due.on(SIX);
            x.seed(9);
            t.due("years(30)", x.years(30), 0);
            t.due("years(1)", x.years(1), 0);
            t.due("seed", x.seed(0), 9);
            t.due("a new object", new CockWar().years(1), 0);
        }).brokenIn("years", "return 0;", "return m;")
                .brokenIn("years", "return 0;", "drawn = drawn * SEED_FACTOR + SEED_SUMMAND;\n return 0;");
        e.edge("of the winds of a hill that is no more none is drawn", t -> {
            CockWar x = Due.on("HW119W119W019W019");
            Due.tell(x, "HC400050C510030W111W011");
            x.hill();
            for (long seed : SEEDS) {
                x.seed(seed);
                t.due("years(30) by " + seed, x.years(30), drawn(seed, 30, 2, 1));
            }
            Due.tell(x, "H");
            x.hill();
            x.seed(9);
            t.due("years(30) without winds", x.years(30), 0);
            t.due("seed", x.seed(0), 9);
        }).brokenIn("daysInAll", "w < winds", "w <= winds")
                .brokenIn("years", "inAll < 1", "inAll < 0");
        e.says("(Nothing changes but THE SEED.)");
        e.edge("behind the days all is as ahead, but the seed", t -> {
            CockWar x = Due.busy();
            x.years(30);
            x.seed(77);
            t.same("years(30) and seed(77)", x, Due.busy());
        }).brokenIn("years", "air.blowOver(trial,", "air.blowOver(now,")
                .brokenIn("years", "trial.copyFrom(now);", "trial.copyFrom(now);\n acts.remember(now);")
                .brokenIn("years", "trial.copyFrom(now);", "trial.copyFrom(now);\n now.held = 0;");
        e.says("OUTSIDE: m.");
        e.edge("0 and less are no days", t -> {
            t.refused("years(0)", OUTSIDE, x -> x.years(0));
            t.refused("years(-1)", OUTSIDE, x -> x.years(-1));
            t.refused("years(LOW)", OUTSIDE, x -> x.years(LOW));
            t.refused("years(0) without winds", OUTSIDE, () -> Due.on(SIX), x -> x.years(0));
        }).brokenIn("years", "m < 1", "m < 0").brokenIn("years", "m < 1 ||", "m < 1 && air.winds > 0 ||");
        e.edge("31 and more are too many", t -> {
            t.refused("years(31)", OUTSIDE, x -> x.years(31));
            t.refused("years(HIGH)", OUTSIDE, x -> x.years(HIGH));
            t.refused("years(31) without winds", OUTSIDE, () -> Due.on(SIX), x -> x.years(31));
        }).brokenIn("years", "m > 30", "m > 31").brokenIn("years", "m > 30", "m > 30 && air.winds > 0")
                .brokenIn("years", "return OUTSIDE;", "drawn = drawn * SEED_FACTOR + SEED_SUMMAND;\n return OUTSIDE;");
    }

    private static void keep(Edges e) {
        e.says("They are kept: DAYS that went by.");
        e.edge("no day, and many", t -> {
            CockWar x = Due.on("HW001");
            t.due("keep(0)", x.keep(0), 0);
            for (int i = 0; i < 300; i++) x.blow(0);
            t.due("keep(1)", x.keep(1), 300);
            t.due("again(0)", x.again(0), 0);
            t.due("again(1)", x.again(1), 300);
            t.due("a new object", new CockWar().keep(0), 0);
        }).brokenIn("store", "return now.days;", "return Math.min(now.days, 14);")
                .brokenIn("store", "return now.days;", "return now.days & 255;")
                .brokenIn("fetch", "return now.days;", "return now.days & 255;")
                .brokenIn("store", "return now.days;", "return Math.max(now.days, 1);");
        e.edge("what was kept ahead is kept no more, the other slot's is", t -> {
            CockWar x = Due.on("HC400010C500010W001");
            x.keep(0);
            x.keep(1);
            x.hold(1);
            x.blow(0);
            x.hold(0);
            t.due("keep(0) anew", x.keep(0), 1);
            t.due("again(1)", x.again(1), 0);
            t.due("held in 1", x.count(8), 0);
            t.due("again(0)", x.again(0), 1);
            t.due("held in 0", x.count(8), 1);
        }).brokenIn("store", "kept[slot].copyFrom(now);", "if (bit(filled, slot) == 0) {\n kept[slot].copyFrom(now);\n }")
                .brokenIn("store", "kept[slot].copyFrom(now);", "kept[0].copyFrom(now);\n kept[1].copyFrom(now);");
        e.edge("to keep changes nothing but the slot", t -> {
            CockWar x = Due.busy(), y = Due.busy();
            x.keep(1);
            t.due("acts", x.count(9), y.count(9));
            t.due("held", x.count(8), y.count(8));
            for (int left = 6; left >= 0; left--) t.due("undo to " + left, x.undo(), left);
            t.due("seed", x.seed(0), 77);
            t.due("seen", x.unsee(), 1);
            t.due("again(0), the other slot", x.again(0), 0);
        }).brokenIn("keep", "return", "acts.forget();\n return").brokenIn("keep", "return", "now.held = 0;\n return");
        e.says("SLOTS 0 to 1 keep TREES, COCKS, THE BROOK, DAYS, who is HELD (THE ROW of ACTS is empty when one goes on).");
        e.edge("slots 0 and 1", t -> {
            CockWar x = Due.on(SIX);
            x.hold(0);
            x.keep(0);
            x.hold(1);
            x.keep(1);
            x.again(0);
            t.due("held in 0", x.count(8), 1);
            x.again(1);
            t.due("held in 1", x.count(8), 3);
        }).brokenIn("", "MOST_SLOTS = 2", "MOST_SLOTS = 1");
        e.says("UNKNOWN.");
        e.edge("-1 and less are no slot", t -> {
            t.refused("keep(-1)", UNKNOWN, x -> x.keep(-1));
            t.refused("keep(LOW)", UNKNOWN, x -> x.keep(LOW));
        }).brokenIn("store", "slot < 0 ||", "slot < -1 ||")
                .brokenIn("store", "return UNKNOWN;", "filled = 0;\n return UNKNOWN;");
        e.edge("2 and more are no slot", t -> {
            t.refused("keep(2)", UNKNOWN, x -> x.keep(2));
            t.refused("keep(HIGH)", UNKNOWN, x -> x.keep(HIGH));
        }).brokenIn("", "MOST_SLOTS = 2", "MOST_SLOTS = 3")
                .brokenIn("store", "return UNKNOWN;", "filled = 3;\n return UNKNOWN;");
    }

    private static void again(Edges e) {
        e.says("They are as they were kept: DAYS that went by.");
        e.edge("trees, cocks, the brook, days and who is held", t -> {
            CockWar x = Due.on("HT01T92C400350C510030W151W041");
            x.blow(1);
            x.hold(1);
            x.keep(1);
            x.fell(9);
            x.move(0, 7);
            x.grease(0);
            x.capture(1);
            t.due("blow(0)", x.blow(0), 0);
            t.due("again(1)", x.again(1), 1);
            int[][] kept = {{4, 0, 0, 3, 5, 0, 0}, {5, 1, 0, 0, 3, 0, 1}};
            for (int c = 0; c < 2; c++) {
                for (int what = 0; what <= 6; what++) {
                    t.due("cock(" + c + "," + what + ")", x.cock(c, what), kept[c][what]);
                }
            }
            t.due("tree(9)", x.tree(9), 2);
            t.due("TREES", x.count(7), 513);
            t.due("brook", x.count(3), 1);
            t.due("days", x.count(4), 1);
            t.due("held", x.count(8), 2);
        }).brokenIn("Hill.copyFrom", "copyRow(from.trees, trees);", "")
                .brokenIn("Hill.copyFrom", "copyRow(from.cells, cells);", "")
                .brokenIn("Hill.copyFrom", "copyRow(from.rusts, rusts);", "")
                .brokenIn("Hill.copyFrom", "parishes = from.parishes;", "")
                .brokenIn("Hill.copyFrom", "ways = from.ways;", "")
                .brokenIn("Hill.copyFrom", "brook = from.brook;", "")
                .brokenIn("Hill.copyFrom", "days = from.days;", "")
                .brokenIn("Hill.copyFrom", "held = from.held;", "");
        e.edge("once more, and whatever was done behind it", t -> {
            CockWar x = Due.on("HT01C400010W111");
            x.keep(0);
            for (int i = 0; i < 3; i++) {
                t.due("again(0)", x.again(0), 0);
                t.due("blow(0)", x.blow(0), 0);
                t.due("fell(0)", x.fell(0), 1);
            }
        }).brokenIn("fetch", "now.copyFrom(kept[slot]);", "now.copyFrom(kept[slot]);\n filled &= ~(1 << slot);")
                .brokenIn("fetch", "now.copyFrom(kept[slot]);", "now.copyFrom(kept[slot]);\n put(kept[slot].trees, 0, 0);");
        e.edge("letters, what is seen, the seed and the other slot stay", t -> {
            CockWar x = Due.busy();
            x.keep(1);
            x.again(0);
            t.due("letters", x.count(0), Due.BUSY.length());
            t.due("seen", x.count(10), 1);
            t.due("winds there are", x.count(2), 2);
            t.due("seed", x.seed(0), 77);
            t.due("again(1)", x.again(1), 1);
        }).brokenIn("again", "acts.forget();", "acts.forget();\n sights.number = 0;")
                .brokenIn("again", "acts.forget();", "acts.forget();\n drawn = 0;")
                .brokenIn("again", "acts.forget();", "acts.forget();\n reader.length = 0;")
                .brokenIn("again", "acts.forget();", "acts.forget();\n slots.filled = 1;");
        e.says("(THE ROW of ACTS is empty when one goes on).");
        e.edge("no act can be undone, on day 0 too", t -> {
            CockWar x = Due.busy();
            x.again(0);
            t.due("acts", x.count(9), 0);
            t.due("undo", x.undo(), STATE);
            x.keep(1);
            x.hold(2);
            x.again(1);
            t.due("undo behind again(1)", x.undo(), STATE);
        }).brokenIn("again", "went >= 0", "went > 0")
                .brokenIn("again", "acts.forget();", "acts.remember(now);");
        e.says("UNKNOWN;");
        e.edge("neither -1 nor 2 is a slot, nor what is beyond", t -> {
            for (int slot : new int[] {-1, LOW, 2, HIGH}) {
                t.refused("again(" + slot + ")", UNKNOWN, x -> x.again(slot));
            }
        }).brokenIn("fetch", "slot < 0 ||", "slot < -1 ||").brokenIn("", "MOST_SLOTS = 2", "MOST_SLOTS = 3")
                .brokenIn("again", "if (went >= 0)", "if (went != STATE)");
        e.says("STATE: none were kept.");
        e.edge("a slot that was never kept, and none of a new hill", t -> {
            t.refused("again(1)", STATE, x -> x.again(1));
            t.refused("again(0) of a new object", STATE, CockWar::new, x -> x.again(0));
            t.refused("again(0) of a new hill", STATE, () -> {
                CockWar x = Due.busy();
                x.keep(1);
                x.hill();
                return x;
            }, x -> x.again(0));
        }).brokenIn("fetch", "bit(filled, slot) == 0", "filled == 0")
                .brokenIn("again", "if (went >= 0)", "if (went != UNKNOWN)")
                .brokenIn("fetch", "return STATE;", "now.copyFrom(kept[slot]);\n return STATE;")
                .brokenIn("Slots.forget", "filled = 0;", "filled = filled & 1;");
    }

    private static void count(Edges e) {
        e.says("0 letters of THE TEXT, 1 COCKS, 2 WINDS, 3 whose THE BROOK is, 4 DAYS that went by, "
                + "5 WEIGHTS for PARISH 0 as all point now, 6 for PARISH 1, 7 CELLS with TREES (bits), "
                + "8 who is HELD (bits), 9 ACTS in the row, 10 SEEN.");
        e.edge("each its own number", t -> {
            CockWar x = Due.on("HT11T83C200150C712031C003421C913470W124W013");
            x.hold(3);
            x.blow(1);
            x.hold(0);
            x.hold(2);
            x.see(0, 0);
            x.wipe();
            Due.tell(x, "HT1");
            int[] want = {3, 4, 2, 1, 1, 2, 7, 258, 5, 4, 1};
            for (int what = 0; what <= 10; what++) t.due("count(" + what + ")", x.count(what), want[what]);
        }).brokenIn("count", "case 1: return now.cocks;", "case 1: return air.winds;")
                .brokenIn("count", "now.weightFor(0)", "now.weightFor(1)")
                .brokenIn("count", "now.weightFor(1)", "now.weightFor(0)");
        e.edge("the most of each", t -> {
            CockWar x = Due.on("HC000091C100091C200091C300091C400091C500091W001W001W001W001");
            t.due("weights for PARISH 0", x.count(5), 54);
            t.due("weights for PARISH 1", x.count(6), 0);
            for (int c = 0; c < 6; c++) x.capture(c);
            t.due("captured, for either", x.count(5) + x.count(6), 0);
            for (int c = 0; c < 6; c++) x.hold(c);
            for (int i = 0; i < 8; i++) x.see(5, 1);
            t.due("held", x.count(8), 63);
            t.due("acts", x.count(9), 12);
            t.due("seen", x.count(10), 6);
            t.due("cocks", x.count(1), 6);
            t.due("winds", x.count(2), 4);
            Due.tell(x, "HT03T13T23T33T43T53T63T73T83T93C010090C110090C210090C310090");
            x.hill();
            t.due("trees", x.count(7), 1023);
            t.due("weights towards 0", x.count(6), 36);
            for (int i = 0; i < 70; i++) x.write('W');
            t.due("letters", x.count(0), 64);
        }).brokenIn("weightFor", "c < cocks", "c < cocks - 1")
                .brokenIn("treeCells", "c < trees.length", "c < trees.length - 1")
                .brokenIn("count", "now.held", "now.held & 31");
        e.says("OUTSIDE.");
        e.edge("-1 and less are nothing to count", t -> {
            t.refused("count(-1)", OUTSIDE, x -> x.count(-1));
            t.refused("count(LOW)", OUTSIDE, x -> x.count(LOW));
        }).brokenIn("count", "default:", "case -1: return 0;\n default:");
        e.edge("11 and more are nothing to count", t -> {
            t.refused("count(11)", OUTSIDE, x -> x.count(11));
            t.refused("count(HIGH)", OUTSIDE, x -> x.count(HIGH));
        }).brokenIn("count", "default:", "case 11: return 0;\n default:")
                .brokenIn("count", "default:", "case Integer.MAX_VALUE: return 0;\n default:");
    }
}
