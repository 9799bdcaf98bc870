import java.util.function.Consumer;

/** Promises 9 to 15: acts. */
final class ActEdges {
    private static final int UNKNOWN = Due.UNKNOWN, OUTSIDE = Due.OUTSIDE, STATE = Due.STATE;
    private static final int LOW = Due.LOW, HIGH = Due.HIGH;
    private static final String SIX = "HC000010C100010C200010C300010C400010C500010";

    private ActEdges() {}

    static void tell(Edges e) {
        e.promise(9);
        blow(e);
        whoTurns(e);
        whoseBrook(e);
        e.promise(10);
        fell(e);
        e.promise(11);
        move(e);
        e.promise(12);
        grease(e);
        e.promise(13);
        capture(e);
        e.promise(14);
        hold(e);
        e.promise(15);
        undo(e);
        row(e);
    }

    private static void blow(Edges e) {
        e.says("A WIND BLOWS: whose THE BROOK is then.");
        e.edge("on a hill without cocks the brook stays PARISH 0's", t -> {
            CockWar x = Due.on("HT53W159");
            t.due("blow(0)", x.blow(0), 0);
            t.due("days", x.count(4), 1);
        }).brokenIn("blowOver", "return ground.brook;", "return ground.cocks == 0 ? 1 : ground.brook;");
        e.edge("the fourth wind blows too", t -> {
            CockWar x = Due.on("HC410090W001W001W001W011");
            t.due("blow(3)", x.blow(3), 1);
        }).brokenIn("", "MOST_WINDS = 4", "MOST_WINDS = 3");
        e.says("UNKNOWN.");
        e.edge("-1 and less are no wind", t -> {
            t.refused("blow(-1)", UNKNOWN, x -> x.blow(-1));
            t.refused("blow(LOW)", UNKNOWN, x -> x.blow(LOW));
        }).brokenIn("hasWind", "wind >= 0", "wind >= -1")
                .brokenIn("blow", "return UNKNOWN;", "acts.remember(now);\n return UNKNOWN;");
        e.edge("there is no wind behind the last", t -> {
            t.refused("blow(2)", UNKNOWN, x -> x.blow(2));
            t.refused("blow(HIGH)", UNKNOWN, x -> x.blow(HIGH));
            t.refused("blow(0) without winds", UNKNOWN, () -> Due.on(SIX), x -> x.blow(0));
            t.refused("blow(0) of a new object", UNKNOWN, CockWar::new, x -> x.blow(0));
        }).brokenIn("hasWind", "wind < winds", "wind <= winds")
                .brokenIn("blow", "return UNKNOWN;", "now.held = 0;\n return UNKNOWN;")
                .brokenIn("blow", "return UNKNOWN;", "now.days++;\n return UNKNOWN;");
        e.says("A DAY went by;");
        e.edge("a day for each wind, more than the row holds", t -> {
            CockWar x = Due.on("HW001");
            for (int i = 0; i < 300; i++) x.blow(0);
            t.due("days", x.count(4), 300);
            t.due("acts", x.count(9), 14);
        }).brokenIn("blowOver", "ground.days++;", "ground.days = (byte) (ground.days + 1);")
                .brokenIn("blowOver", "ground.days++;", "ground.days = Math.min(14, ground.days + 1);");
        e.says("nobody is HELD any more.");
        e.edge("who was held is let go, all six", t -> {
            CockWar x = Due.on(SIX + "W111");
            for (int c = 0; c < 6; c++) x.hold(c);
            x.blow(0);
            t.due("none turned", x.count(5), 0);
            t.due("held", x.count(8), 0);
            x.blow(0);
            t.due("all turned", x.count(5), 6);
        }).brokenIn("blowOver", "ground.held = 0;", "")
                .brokenIn("blowOver", "ground.held = 0;", "ground.held &= 32;");
    }

    private static void turns(Due t, String text, boolean want) {
        CockWar x = Due.on(text);
        int ahead = x.cock(0, 5);
        x.blow(0);
        t.due("that cock 0 turns on " + text, x.cock(0, 5) == ahead ? 0 : 1, want ? 1 : 0);
    }

    private static void whoTurns(Edges e) {
        e.says("A WIND BLOWS: each COCK points where it goes then, if its STRENGTH is more than the COCK's RUST,");
        e.edge("a strength as much as the rust turns none, one more does", t -> {
            for (int rust = 0; rust <= 4; rust++) {
                for (int strength = 0; strength <= 5; strength++) {
                    turns(t, "HC400" + rust + "10W1" + strength + "1", strength > rust);
                    turns(t, "HC513" + rust + "11W0" + strength + "1", strength > rust);
                }
            }
        }).brokenIn("yieldingTo", "strength > at(rusts, c)", "strength >= at(rusts, c)")
                .brokenIn("yieldingTo", "strength > at(rusts, c)", "strength > at(rusts, c) + 1")
                .brokenIn("yieldingTo", "strength > at(rusts, c)", "strength > Math.max(1, at(rusts, c))");
        e.edge("who points there already points there still", t -> {
            CockWar x = Due.on("HC400011C510010W151W051");
            x.blow(0);
            t.due("to 9", x.cock(0, 5) * 10 + x.cock(1, 5), 11);
            x.blow(0);
            t.due("to 9 again", x.cock(0, 5) * 10 + x.cock(1, 5), 11);
            x.blow(1);
            x.blow(1);
            t.due("to 0 twice", x.cock(0, 5) * 10 + x.cock(1, 5), 0);
        }).brokenIn("waysBehind", "ground.ways | turned", "ground.ways ^ turned")
                .brokenIn("waysBehind", "ground.ways & ~turned", "ground.ways ^ turned");
        e.says("and it is not HELD,");
        e.edge("who is held does not turn, the others do", t -> {
            CockWar x = Due.on(SIX + "W111");
            x.hold(0);
            x.hold(5);
            x.blow(0);
            for (int c = 0; c < 6; c++) t.due("cock(" + c + ",5)", x.cock(c, 5), c == 0 || c == 5 ? 0 : 1);
        }).brokenIn("waysBehind", "& ~held", "")
                .brokenIn("waysBehind", "& ~held", "& ~(held & 31)")
                .brokenIn("waysBehind", "& ~held", "& (held == 0 ? -1 : 0)");
        e.says("and no TREE higher than the COCK stands");
        e.edge("a tree as high as the cock is no shelter, one higher is", t -> {
            for (int tree = 1; tree <= 3; tree++) {
                for (int high = 0; high <= 3; high++) {
                    turns(t, "HT3" + tree + "C40" + high + "010W111", tree <= high);
                    turns(t, "HT5" + tree + "C40" + high + "011W011", tree <= high);
                }
            }
        }).brokenIn("yieldingTo", "shelter <= at(heights, c)", "shelter < at(heights, c)")
                .brokenIn("yieldingTo", "shelter <= at(heights, c)", "shelter <= at(heights, c) + 1");
        e.says("on the next CELL from which the WIND comes (the lesser one for a WIND towards 9).");
        e.edge("the tree on the next cell shelters, and none on another", t -> {
            for (int cell = 0; cell <= 9; cell++) {
                for (int tree = 0; tree <= 9; tree++) {
                    turns(t, "HT" + tree + "3C" + cell + "00010W111", tree != cell - 1);
                    turns(t, "HT" + tree + "3C" + cell + "00011W011", tree != cell + 1);
                }
            }
        }).brokenIn("yieldingTo", "goal == 1 ? -1 : 1", "goal == 1 ? 1 : -1")
                .brokenIn("yieldingTo", "goal == 1 ? -1 : 1", "goal == 1 ? -2 : 2")
                .brokenIn("yieldingTo", "goal == 1 ? -1 : 1", "0")
                .brokenIn("yieldingTo", "goal == 1 ? -1 : 1", "-1");
        e.edge("at its ends the hill does not go round", t -> {
            turns(t, "HT93C000010W111", true);
            turns(t, "HT03C900011W011", true);
        }).brokenIn("yieldingTo", "at(cells, c) + (goal == 1 ? -1 : 1)",
                "(at(cells, c) + (goal == 1 ? 9 : 1)) % MOST_CELLS");
    }

    /** Of PARISH 0 so much points towards 9, of PARISH 1 so much towards 0; the wind turns none. */
    private static CockWar leaning(int weight0, int weight1) {
        return Due.on("HC4000" + weight0 + "1C5100" + weight1 + "0W001");
    }

    private static void whoseBrook(Edges e) {
        e.says("Then, of PARISH 0 the WEIGHTS of COCKS that point towards 9, of PARISH 1 of those that point towards 0: "
                + "whose are more has THE BROOK;");
        e.edge("one more is enough", t -> {
            t.due("5 and 4", leaning(5, 4).blow(0), 0);
            t.due("4 and 5", leaning(4, 5).blow(0), 1);
            t.due("9 and 1", leaning(9, 1).blow(0), 0);
            t.due("1 and 9", leaning(1, 9).blow(0), 1);
            CockWar back = leaning(5, 4);
            back.capture(0);
            t.due("0 and 4", back.blow(0), 1);
            back.capture(0);
            t.due("5 and 4 behind PARISH 1's brook", back.blow(0), 0);
        }).brokenIn("brookBy", "lead == 0", "lead <= 1 && lead >= 0")
                .brokenIn("brookBy", "lead == 0", "lead >= -1 && lead <= 0");
        e.edge("who points towards the own parish's end counts for nobody", t -> {
            t.due("PARISH 0's towards 0", Due.on("HC400090C510010W001").blow(0), 1);
            CockWar x = Due.on("HC400011C510091C610010W001");
            x.hold(1);
            t.due("PARISH 1's towards 9, 1 and 1", x.blow(0), 0);
            x.capture(0);
            x.blow(0);
            t.due("0 and 1", x.count(3), 1);
            x.capture(0);
            t.due("1 and 1 again", x.blow(0), 1);
        }).brokenIn("brookBy", "pointing ^ parishes", "parishes ^ -1")
                .brokenIn("brookBy", "pointing ^ parishes", "pointing | parishes");
        e.edge("six of weight 9 are 54", t -> {
            CockWar x = Due.on("HC000091C100091C200091C300091C400091C500091W001");
            t.due("blow(0)", x.blow(0), 0);
            t.due("weights", x.count(5), 54);
        }).brokenIn("weightFor", "return sum;", "return Math.min(sum, 53);");
        e.says("if they are even, it stays whose it was.");
        e.edge("even, it stays PARISH 0's", t -> {
            t.due("3 and 3", leaning(3, 3).blow(0), 0);
            t.due("0 and 0", Due.on("HC400090C510091W001").blow(0), 0);
        }).brokenIn("brookBy", "return brook;", "return 1;")
                .brokenIn("brookBy", "return brook;", "return 1 - brook;");
        e.edge("even, it stays PARISH 1's", t -> {
            CockWar x = leaning(3, 3);
            x.capture(0);
            t.due("0 and 3", x.blow(0), 1);
            x.capture(0);
            t.due("3 and 3", x.blow(0), 1);
            x.capture(0);
            x.capture(1);
            t.due("0 and 0", x.blow(0), 1);
        }).brokenIn("brookBy", "return brook;", "return 0;");
    }

    private static void fell(Edges e) {
        e.says("FELLED: how high it was.");
        e.edge("on the first and the last cell, the lowest and the highest", t -> {
            CockWar x = Due.on("HT01T93");
            t.due("fell(0)", x.fell(0), 1);
            t.due("fell(9)", x.fell(9), 3);
            t.due("acts", x.count(9), 2);
        }).brokenIn("fell", "return high;", "return Math.min(high, 2);")
                .brokenIn("isCell", "cell < MOST_CELLS", "cell < MOST_CELLS - 1");
        e.says("FELLED: a TREE is gone.");
        e.edge("it is gone, the others and a cock on its cell stay", t -> {
            CockWar x = Due.on("HT41T52T63C513020");
            t.due("fell(5)", x.fell(5), 2);
            t.due("TREES", x.count(7), 80);
            t.due("tree(5)", x.tree(5), 0);
            t.due("tree(4)", x.tree(4), 1);
            t.due("cock(0,0)", x.cock(0, 0), 5);
        }).brokenIn("fell", "put(now.trees, cell, 0);", "put(now.trees, cell, high - 1);")
                .brokenIn("fell", "put(now.trees, cell, 0);", "put(now.trees, cell, 0);\n put(now.trees, cell + 1, 0);");
        e.says("OUTSIDE;");
        e.edge("-1 and less are no cell", t -> {
            t.refused("fell(-1)", OUTSIDE, x -> x.fell(-1));
            t.refused("fell(LOW)", OUTSIDE, x -> x.fell(LOW));
        }).brokenIn("isCell", "cell >= 0", "cell >= -1")
                .brokenIn("fell", "return OUTSIDE;", "acts.remember(now);\n return OUTSIDE;");
        e.edge("10 and more are no cell", t -> {
            t.refused("fell(10)", OUTSIDE, x -> x.fell(10));
            t.refused("fell(HIGH)", OUTSIDE, x -> x.fell(HIGH));
        }).brokenIn("isCell", "cell < MOST_CELLS", "cell <= MOST_CELLS");
        e.says("STATE: there is none.");
        e.edge("where none stood, and where one was felled", t -> {
            t.refused("fell(5)", STATE, x -> x.fell(5));
            t.refused("fell(9) once more", STATE, x -> x.fell(9));
            t.refused("fell(0) of a new object", STATE, CockWar::new, x -> x.fell(0));
        }).brokenIn("fell", "if (high == 0)", "if (high == 7)")
                .brokenIn("fell", "return STATE;", "acts.remember(now);\n return STATE;");
    }

    private static void move(Edges e) {
        e.says("MOVED: the CELL it was on.");
        e.edge("to the last cell and the first", t -> {
            CockWar x = Due.on("HC400010");
            t.due("move(0,9)", x.move(0, 9), 4);
            t.due("its cell", x.cock(0, 0), 9);
            t.due("move(0,0)", x.move(0, 0), 9);
            t.due("its cell then", x.cock(0, 0), 0);
            t.due("acts", x.count(9), 2);
        }).brokenIn("move", "return was;", "return cell;")
                .brokenIn("isCell", "cell < MOST_CELLS", "cell < MOST_CELLS - 1")
                .brokenIn("isCell", "cell >= 0", "cell >= 1");
        e.says("MOVED: a COCK is on another CELL where no COCK is.");
        e.edge("the cell it left is free, and one with a tree too", t -> {
            CockWar x = Due.on("HT93C400010C513491");
            x.hold(1);
            x.move(0, 9);
            t.due("onto the cell that was left", x.move(1, 4), 5);
            int[] want = {4, 1, 3, 4, 9, 1, 1};
            for (int what = 0; what <= 6; what++) t.due("cock(1," + what + ")", x.cock(1, what), want[what]);
        }).brokenIn("move", "put(now.cells, cock, cell);", "put(now.cells, cock, cell);\n now.held = 0;")
                .brokenIn("move", "now.takenCells()", "now.takenCells() | now.treeCells()")
                .brokenIn("move", "bit(now.takenCells(), cell)", "bit(now.takenCells() | 1 << 4, cell)");
        e.edge("the sixth cock alone", t -> {
            CockWar x = Due.on(SIX);
            t.due("move(5,9)", x.move(5, 9), 5);
            for (int c = 0; c < 6; c++) t.due("cock(" + c + ",0)", x.cock(c, 0), c == 5 ? 9 : c);
        }).brokenIn("move", "put(now.cells, cock, cell);", "put(now.cells, 0, cell);")
                .brokenIn("move", "put(now.cells, cock, cell);", "put(now.cells, cock & 3, cell);");
        e.says("UNKNOWN;");
        e.edge("-1 and less are no cock", t -> {
            t.refused("move(-1,0)", UNKNOWN, x -> x.move(-1, 0));
            t.refused("move(LOW,0)", UNKNOWN, x -> x.move(LOW, 0));
        }).brokenIn("hasCock", "cock >= 0", "cock >= -1");
        e.edge("there is no cock behind the last", t -> {
            t.refused("move(3,0)", UNKNOWN, x -> x.move(3, 0));
            t.refused("move(HIGH,0)", UNKNOWN, x -> x.move(HIGH, 0));
            t.refused("move(0,0) of a new object", UNKNOWN, CockWar::new, x -> x.move(0, 0));
        }).brokenIn("hasCock", "cock < cocks", "cock <= cocks")
                .brokenIn("move", "return UNKNOWN;", "acts.remember(now);\n return UNKNOWN;");
        e.says("OUTSIDE: cell;");
        e.edge("-1 and less are no cell", t -> {
            t.refused("move(0,-1)", OUTSIDE, x -> x.move(0, -1));
            t.refused("move(0,LOW)", OUTSIDE, x -> x.move(0, LOW));
        }).brokenIn("isCell", "cell >= 0", "cell >= -1");
        e.edge("10 and more are no cell", t -> {
            t.refused("move(0,10)", OUTSIDE, x -> x.move(0, 10));
            // Its last five bits are those of a cell where a cock is.
            t.refused("move(0,36)", OUTSIDE, x -> x.move(0, 36));
            t.refused("move(0,HIGH)", OUTSIDE, x -> x.move(0, HIGH));
        }).brokenIn("isCell", "cell < MOST_CELLS", "cell <= MOST_CELLS")
                .brokenIn("move", "if (!isCell(cell))", "if (!isCell(cell & 31))")
                .brokenIn("move", "return OUTSIDE;", "acts.remember(now);\n return OUTSIDE;");
        e.says("STATE: a COCK is there (it itself, too).");
        e.edge("where another cock is", t -> {
            t.refused("move(0,5)", STATE, x -> x.move(0, 5));
            t.refused("move(1,4)", STATE, x -> x.move(1, 4));
            t.refused("move(0,8), where one moved to", STATE, x -> x.move(0, 8));
        }).brokenIn("move", "bit(now.takenCells(), cell) == 1", "at(now.cells, cock) == cell")
                .brokenIn("move", "return STATE;", "acts.remember(now);\n return STATE;");
        e.edge("where it is itself", t -> {
            t.refused("move(0,4)", STATE, x -> x.move(0, 4));
            t.refused("move(2,8)", STATE, x -> x.move(2, 8));
        }).brokenIn("move", "bit(now.takenCells(), cell) == 1",
                "bit(now.takenCells(), cell) == 1 && at(now.cells, cock) != cell");
        e.says("REFUSALS, of several the first that a call names");
        e.edge("UNKNOWN goes ahead of OUTSIDE and STATE", t -> {
            t.refused("move(3,10)", UNKNOWN, x -> x.move(3, 10));
            t.refused("move(-1,-1)", UNKNOWN, x -> x.move(-1, -1));
            t.refused("move(3,4)", UNKNOWN, x -> x.move(3, 4));
        }).brokenIn("move", "!now.hasCock(cock)", "!now.hasCock(cock) && isCell(cell)")
                .brokenIn("move", "return UNKNOWN;", "return isCell(cell) && cell == 4 ? STATE : UNKNOWN;");
    }

    private static void grease(Edges e) {
        e.says("GREASED: the RUST it had.");
        e.edge("the most rust and the least", t -> {
            CockWar x = Due.on("HC400410C500110");
            t.due("grease(0)", x.grease(0), 4);
            t.due("grease(1)", x.grease(1), 1);
            t.due("acts", x.count(9), 2);
        }).brokenIn("grease", "return rust;", "return Math.min(rust, 3);")
                .brokenIn("grease", "rust == 0", "rust <= 1");
        e.says("GREASED: its RUST is 0.");
        e.edge("all its rust is gone, the others' stays", t -> {
            CockWar x = Due.on("HC400410C500210W111");
            x.grease(0);
            t.due("cock(0,3)", x.cock(0, 3), 0);
            t.due("cock(1,3)", x.cock(1, 3), 2);
            t.due("it turns", x.wind(0, 3), 1);
        }).brokenIn("grease", "put(now.rusts, cock, 0);", "put(now.rusts, cock, rust - 1);")
                .brokenIn("grease", "put(now.rusts, cock, 0);", "put(now.rusts, 0, 0);\n put(now.rusts, 1, 0);");
        e.edge("the sixth cock's alone", t -> {
            CockWar x = Due.on("HC000110C100210C200310C300410C400110C500210");
            t.due("grease(5)", x.grease(5), 2);
            int[] want = {1, 2, 3, 4, 1, 0};
            for (int c = 0; c < 6; c++) t.due("cock(" + c + ",3)", x.cock(c, 3), want[c]);
        }).brokenIn("grease", "put(now.rusts, cock, 0);", "put(now.rusts, 0, 0);")
                .brokenIn("grease", "put(now.rusts, cock, 0);", "put(now.rusts, cock & 3, 0);");
        e.says("UNKNOWN;");
        e.edge("-1 and less are no cock", t -> {
            t.refused("grease(-1)", UNKNOWN, x -> x.grease(-1));
            t.refused("grease(LOW)", UNKNOWN, x -> x.grease(LOW));
        }).brokenIn("hasCock", "cock >= 0", "cock >= -1");
        e.edge("there is no cock behind the last", t -> {
            t.refused("grease(3)", UNKNOWN, x -> x.grease(3));
            t.refused("grease(HIGH)", UNKNOWN, x -> x.grease(HIGH));
            t.refused("grease(0) of a new object", UNKNOWN, CockWar::new, x -> x.grease(0));
        }).brokenIn("hasCock", "cock < cocks", "cock <= cocks")
                .brokenIn("grease", "return UNKNOWN;", "acts.remember(now);\n return UNKNOWN;");
        e.says("STATE: it has none.");
        e.edge("that never had rust, or was greased", t -> {
            t.refused("grease(1)", STATE, x -> x.grease(1));
            t.refused("grease(0) once more", STATE, x -> x.grease(0));
        }).brokenIn("grease", "if (rust == 0)", "if (rust == 7)")
                .brokenIn("grease", "return STATE;", "acts.remember(now);\n return STATE;");
    }

    private static void capture(Edges e) {
        e.says("CAPTURED: whose it is then.");
        e.edge("of either parish, and back", t -> {
            CockWar x = Due.on("HC400051C510031");
            t.due("capture(0)", x.capture(0), 1);
            t.due("capture(1)", x.capture(1), 0);
            t.due("capture(0) back", x.capture(0), 0);
            t.due("acts", x.count(9), 3);
        }).brokenIn("capture", "return bit(now.parishes, cock)", "return bit(~now.parishes, cock)")
                .brokenIn("capture", "^= 1 << cock", "|= 1 << cock");
        e.says("CAPTURED: it is the other PARISH's.");
        e.edge("the sixth cock alone, and no wind blows for it", t -> {
            CockWar x = Due.on("HC000011C100011C200011C300011C400011C500091W001");
            t.due("capture(5)", x.capture(5), 1);
            for (int c = 0; c < 6; c++) t.due("cock(" + c + ",1)", x.cock(c, 1), c == 5 ? 1 : 0);
            t.due("it points as before", x.cock(5, 5), 1);
            t.due("weights", x.count(5), 5);
            x.capture(0);
            t.due("days", x.count(4), 0);
            CockWar y = Due.on("HC400091C500090W001");
            y.capture(1);
            t.due("the brook stays PARISH 0's", y.count(3), 0);
        }).brokenIn("capture", "now.parishes ^= 1 << cock;", "now.parishes ^= 1 << (cock & 3);")
                .brokenIn("capture", "now.parishes ^= 1 << cock;", "now.parishes ^= 1 << cock;\n now.ways ^= 1 << cock;")
                .brokenIn("capture", "now.parishes ^= 1 << cock;", "now.parishes ^= 1 << cock;\n now.days++;");
        e.edge("the brook stays whose it is till a wind blows", t -> {
            CockWar x = Due.on("HC400090C510091W001");
            x.capture(0);
            t.due("weights of PARISH 1", x.count(6), 9);
            t.due("brook", x.count(3), 0);
            t.due("blow(0)", x.blow(0), 1);
        }).brokenIn("capture", "now.parishes ^= 1 << cock;",
                "now.parishes ^= 1 << cock;\n now.brook = now.brookBy(now.ways);");
        e.says("UNKNOWN.");
        e.edge("-1 and less are no cock", t -> {
            t.refused("capture(-1)", UNKNOWN, x -> x.capture(-1));
            t.refused("capture(LOW)", UNKNOWN, x -> x.capture(LOW));
        }).brokenIn("hasCock", "cock >= 0", "cock >= -1");
        e.edge("there is no cock behind the last", t -> {
            t.refused("capture(3)", UNKNOWN, x -> x.capture(3));
            t.refused("capture(32)", UNKNOWN, x -> x.capture(32));
            t.refused("capture(HIGH)", UNKNOWN, x -> x.capture(HIGH));
            t.refused("capture(0) of a new object", UNKNOWN, CockWar::new, x -> x.capture(0));
        }).brokenIn("hasCock", "cock < cocks", "cock <= cocks")
                .brokenIn("capture", "return UNKNOWN;", "acts.remember(now);\n return UNKNOWN;");
    }

    private static void hold(Edges e) {
        e.says("HELD: 1 if it is then, 0.");
        e.edge("1 and 0 in turn", t -> {
            CockWar x = Due.on(SIX);
            t.due("hold(5)", x.hold(5), 1);
            t.due("hold(5) again", x.hold(5), 0);
            t.due("hold(5) once more", x.hold(5), 1);
            t.due("acts", x.count(9), 3);
        }).brokenIn("hold", "return bit(now.held, cock);", "return 1;")
                .brokenIn("hold", "^= 1 << cock", "|= 1 << cock");
        e.says("HELD: it is, or is not any more.");
        e.edge("none, all six, and all but one are held", t -> {
            CockWar x = Due.on(SIX);
            t.due("none", x.count(8), 0);
            for (int c = 0; c < 6; c++) x.hold(c);
            t.due("all six", x.count(8), 63);
            x.hold(3);
            t.due("all but one", x.count(8), 55);
            for (int c = 0; c < 6; c++) t.due("cock(" + c + ",6)", x.cock(c, 6), c == 3 ? 0 : 1);
        }).brokenIn("hold", "now.held ^= 1 << cock;", "now.held = 1 << cock;")
                .brokenIn("hold", "now.held ^= 1 << cock;", "now.held ^= 1 << (cock & 3);");
        e.says("UNKNOWN.");
        e.edge("-1 and less are no cock", t -> {
            t.refused("hold(-1)", UNKNOWN, x -> x.hold(-1));
            t.refused("hold(LOW)", UNKNOWN, x -> x.hold(LOW));
        }).brokenIn("hasCock", "cock >= 0", "cock >= -1");
        e.edge("there is no cock behind the last", t -> {
            t.refused("hold(3)", UNKNOWN, x -> x.hold(3));
            t.refused("hold(32)", UNKNOWN, x -> x.hold(32));
            t.refused("hold(HIGH)", UNKNOWN, x -> x.hold(HIGH));
            t.refused("hold(0) of a new object", UNKNOWN, CockWar::new, x -> x.hold(0));
        }).brokenIn("hasCock", "cock < cocks", "cock <= cocks")
                .brokenIn("hold", "return UNKNOWN;", "acts.remember(now);\n return UNKNOWN;");
    }

    /** An act behind the busy ones, undone: as if it had not been. */
    private static void undone(Due t, String call, Consumer<CockWar> act) {
        CockWar x = Due.busy();
        act.accept(x);
        t.due("acts behind " + call, x.count(9), 8);
        t.due("undo of " + call, x.undo(), 7);
        t.same(call + " and undo()", x, Due.busy());
    }

    private static void undo(Edges e) {
        e.says("The last ACT is undone: how many are left.");
        e.edge("the only one: none is left", t -> {
            CockWar x = Due.on("HC400010");
            x.hold(0);
            t.due("undo", x.undo(), 0);
            t.due("held", x.count(8), 0);
            t.due("acts", x.count(9), 0);
        }).brokenIn("takeBack", "return number;", "return Math.max(1, number);");
        e.edge("fourteen, one behind the other", t -> {
            CockWar x = Due.on("HC400010W111");
            for (int i = 0; i < 14; i++) x.blow(0);
            for (int left = 13; left >= 0; left--) {
                t.due("undo to " + left, x.undo(), left);
                t.due("days", x.count(4), left);
            }
        }).brokenIn("takeBack", "oldest + number - 1", "oldest + number")
                .brokenIn("", "MOST_ACTS = 14", "MOST_ACTS = 13");
        e.says("ACTS (WINDS, FELLED, MOVED, GREASED, CAPTURED, HELD) are a row");
        e.edge("a wind is undone: how all point, the brook, the day, who was held", t -> {
            undone(t, "blow(0)", x -> x.blow(0));
            undone(t, "blow(1)", x -> x.blow(1));
            CockWar x = Due.on("HC400051C510030W011");
            x.hold(1);
            t.due("blow(0)", x.blow(0), 1);
            t.due("undo", x.undo(), 1);
            t.due("points", x.cock(0, 5), 1);
            t.due("brook", x.count(3), 0);
            t.due("days", x.count(4), 0);
            t.due("held", x.count(8), 2);
        }).brokenIn("blow", "acts.remember(now);", "acts.remember(now);\n now.held = 0;\n acts.number--;\n acts.remember(now);")
                .brokenIn("Hill.copyFrom", "days = from.days;", "")
                .brokenIn("Hill.copyFrom", "brook = from.brook;", "")
                .brokenIn("Hill.copyFrom", "ways = from.ways;", "");
        e.edge("a felled tree stands again", t -> undone(t, "fell(0)", x -> x.fell(0)))
                .brokenIn("fell", "acts.remember(now);", "")
                .brokenIn("Hill.copyFrom", "copyRow(from.trees, trees);", "");
        e.edge("a moved cock is where it was", t -> undone(t, "move(0,0)", x -> x.move(0, 0)))
                .brokenIn("move", "acts.remember(now);", "")
                .brokenIn("Hill.copyFrom", "copyRow(from.cells, cells);", "");
        e.edge("a greased cock is rusty again", t -> {
            CockWar x = Due.on("HC400410");
            x.grease(0);
            t.due("undo", x.undo(), 0);
            t.due("rust", x.cock(0, 3), 4);
            t.due("grease again", x.grease(0), 4);
        }).brokenIn("grease", "acts.remember(now);", "")
                .brokenIn("Hill.copyFrom", "copyRow(from.rusts, rusts);", "");
        e.edge("a captured cock is whose it was", t -> undone(t, "capture(1)", x -> x.capture(1)))
                .brokenIn("capture", "acts.remember(now);", "")
                .brokenIn("Hill.copyFrom", "parishes = from.parishes;", "");
        e.edge("who was held, or let go, is as before", t -> {
            undone(t, "hold(2)", x -> x.hold(2));
            undone(t, "hold(1)", x -> x.hold(1));
        }).brokenIn("hold", "acts.remember(now);", "")
                .brokenIn("Hill.copyFrom", "held = from.held;", "");
        e.says("STATE: there is none.");
        e.edge("behind no act, and behind all undone", t -> {
            t.refused("undo of a new object", STATE, CockWar::new, x -> x.undo());
            t.refused("undo of a new hill", STATE, () -> Due.on(Due.BUSY), x -> x.undo());
            t.refused("an eighth undo of seven acts", STATE, () -> {
                CockWar x = Due.busy();
                for (int i = 0; i < 7; i++) x.undo();
                return x;
            }, x -> x.undo());
        }).brokenIn("takeBack", "if (number == 0)", "if (number < 0)")
                .brokenIn("takeBack", "return STATE;", "now.held = 0;\n now.days = 1;\n return STATE;");
    }

    private static void row(Edges e) {
        e.says("(14 at most; of more the first one is forgotten);");
        e.edge("of fifteen the first is forgotten", t -> {
            CockWar x = Due.on("HC400010W111");
            x.capture(0);
            for (int i = 1; i <= 13; i++) x.hold(0);
            t.due("fourteen", x.count(9), 14);
            x.hold(0);
            t.due("of fifteen fourteen", x.count(9), 14);
            for (int left = 13; left >= 0; left--) t.due("undo to " + left, x.undo(), left);
            t.due("no more", x.undo(), STATE);
            t.due("the first was not undone", x.cock(0, 1), 1);
            t.due("the second was", x.cock(0, 6), 0);
        }).brokenIn("", "MOST_ACTS = 14", "MOST_ACTS = 15")
                .brokenIn("", "MOST_ACTS = 14", "MOST_ACTS = 13")
                .brokenIn("remember", "oldest = (oldest + 1) % MOST_ACTS;", "");
        e.edge("of forty the last fourteen are left", t -> {
            CockWar x = Due.on("HW001");
            for (int i = 0; i < 40; i++) x.blow(0);
            for (int left = 13; left >= 0; left--) {
                x.undo();
                t.due("days with " + left + " left", x.count(4), 26 + left);
            }
            t.due("no more", x.undo(), STATE);
        }).brokenIn("remember", "oldest = (oldest + 1) % MOST_ACTS;", "oldest = Math.min(oldest + 1, 13);");
        e.says("the last one can be undone.");
        e.edge("an act behind one that was undone comes in its place", t -> {
            CockWar x = Due.on("HT01T93C400010");
            x.hold(0);
            x.fell(0);
            x.undo();
            x.fell(9);
            t.due("acts", x.count(9), 2);
            t.due("undo of fell(9)", x.undo(), 1);
            t.due("TREES", x.count(7), 513);
            t.due("undo of hold(0)", x.undo(), 0);
            t.due("no more", x.undo(), STATE);
        }).brokenIn("takeBack", "number--;", "");
        e.edge("what is no act is not undone: letters, sights, the seed, slots", t -> {
            CockWar x = Due.busy();
            x.write('T');
            x.see(1, 1);
            x.seed(5);
            x.keep(1);
            t.due("undo", x.undo(), 6);
            t.due("letters", x.count(0), Due.BUSY.length() + 1);
            t.due("seen", x.count(10), 2);
            t.due("again(1)", x.again(1), 1);
            t.due("held as kept", x.count(8), 3);
            t.due("seed", x.seed(0), 5);
        }).brokenIn("undo", "return acts", "drawn = 0;\n return acts")
                .brokenIn("undo", "return acts", "sights.number = 0;\n return acts")
                .brokenIn("undo", "return acts", "slots.forget();\n return acts");
    }
}
