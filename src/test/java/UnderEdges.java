/** Promises 16 to 22: under winds. */
final class UnderEdges {
    private static final int UNKNOWN = Due.UNKNOWN, OUTSIDE = Due.OUTSIDE, NONE = Due.NONE;
    private static final int LOW = Due.LOW, HIGH = Due.HIGH;
    /** A wind towards 9 makes the brook PARISH 0's, one towards 0 PARISH 1's. */
    private static final String EITHER = "HC400050C510030";

    private UnderEdges() {}

    static void tell(Edges e) {
        e.promise(16);
        under(e);
        e.promise(17);
        year(e);
        e.promise(18);
        placing(e);
        placingOfLikeOnes(e);
        e.promise(19);
        trees(e);
        e.promise(20);
        decides(e);
        e.promise(21);
        power(e);
        e.promise(22);
        judge(e);
        judgeRefused(e);
    }

    private static void under(Edges e) {
        e.says("UNDER a WIND: the PARISH.");
        e.edge("even, it is whose it is now", t -> {
            CockWar x = Due.on("HC400031C510030W001");
            t.due("3 and 3", x.under(0), 0);
            x.capture(0);
            x.blow(0);
            x.capture(0);
            t.due("3 and 3 behind PARISH 1's", x.under(0), 1);
        }).brokenIn("brookBy", "return brook;", "return 0;").brokenIn("brookBy", "return brook;", "return 1;");
        e.says("UNDER a WIND: whose THE BROOK would be.");
        e.edge("who is held now stays as it points", t -> {
            CockWar x = Due.on("HC410050W111");
            t.due("not held", x.under(0), 0);
            x.hold(0);
            t.due("held", x.under(0), 1);
        }).brokenIn("under", "now.held", "0");
        e.edge("who is in the lee of a tree stays too, on whatever cell it stands", t -> {
            for (int tree = 0; tree <= 9; tree++) {
                t.due("tree on " + tree, Due.on(Due.lee(tree, 5, 3)).under(0), tree < 9 ? 1 : 0);
            }
        }).brokenIn("under", "now.held, 0)", "now.held, 1)")
                .brokenIn("under", "now.held, 0)", "now.held, 2)").brokenIn("under", "now.held, 0)", "now.held, 512)");
        e.edge("each wind goes its own way", t -> {
            for (int number = 0; number < 4; number++) {
                CockWar x = Due.on(Due.oneTo0(EITHER, number));
                for (int w = 0; w < 4; w++) t.due("under(" + w + "), to 0 " + number, x.under(w), w == number ? 1 : 0);
            }
        }).brokenIn("under", "air.brookUnder(now, wind,", "air.brookUnder(now, 0,");
        e.says("In what follows nothing is changed.");
        e.edge("it only would be", t -> {
            t.asksOnly("under(0)", x -> x.under(0));
            t.asksOnly("under(1)", x -> x.under(1));
        }).brokenIn("under", "air.brookUnder(now, wind, now.held, 0)", "air.blowOver(now, wind)")
                .brokenIn("under", "return", "now.held = 0;\n return");
        e.says("UNKNOWN.");
        e.edge("-1 and less are no wind", t -> {
            t.refused("under(-1)", UNKNOWN, x -> x.under(-1));
            t.refused("under(LOW)", UNKNOWN, x -> x.under(LOW));
        }).brokenIn("hasWind", "wind >= 0", "wind >= -1");
        e.edge("there is no wind behind the last", t -> {
            t.refused("under(2)", UNKNOWN, x -> x.under(2));
            t.refused("under(HIGH)", UNKNOWN, x -> x.under(HIGH));
            t.refused("under(0) of a new object", UNKNOWN, CockWar::new, x -> x.under(0));
        }).brokenIn("hasWind", "wind < winds", "wind <= winds");
    }

    private static void year(Edges e) {
        e.says("A YEAR of a PARISH.");
        e.edge("without winds a year has no days", t -> {
            t.due("year(0)", Due.on("HC400010").year(0), 0);
            t.due("year(1)", new CockWar().year(1), 0);
        }).brokenIn("yearOf", "int sum = 0;", "int sum = winds == 0 ? 1 : 0;");
        e.edge("four winds of nine days are 36", t -> {
            CockWar x = Due.on("HC400010W009W019W109W119");
            t.due("year(0)", x.year(0), 36);
            t.due("year(1)", x.year(1), 0);
        }).brokenIn("yearOf", "return sum;", "return Math.min(sum, 35);")
                .brokenIn("yearOf", "int w = 0", "int w = 1");
        e.says("A YEAR of a PARISH: DAYS of all WINDS UNDER which, each by itself from now on, "
                + "THE BROOK would be its own.");
        e.edge("no wind goes on from another, and who is held counts for each", t -> {
            // Behind WIND 0 both point towards 9; from now on WIND 1 turns none.
            CockWar x = Due.on("HC410030C500050W112W005");
            t.due("year(0)", x.year(0), 2);
            t.due("year(1)", x.year(1), 5);
            CockWar y = Due.on("HC410030W112W115");
            y.hold(0);
            t.due("held, year(1)", y.year(1), 7);
            t.due("held, year(0)", y.year(0), 0);
        }).brokenIn("yearOf", "brookUnder(ground, w, ground.held, felled)", "blowOver(ground, w)")
                .brokenIn("yearOf", "ground.held", "(w == 0 ? ground.held : 0)");
        e.edge("trees shelter for each wind", t -> {
            CockWar x = Due.on("HT01C110050C500010W112W005W112");
            t.due("tree on 0, year(1)", x.year(1), 9);
            CockWar y = Due.on("HT91C800051C413430W012W001");
            t.due("tree on 9, year(0)", y.year(0), 3);
            for (int tree = 0; tree <= 9; tree++) {
                CockWar z = Due.on(Due.lee(tree, 5, 3));
                t.due("tree on " + tree + ", year(0)", z.year(0), tree < 9 ? 0 : 2);
                t.due("tree on " + tree + ", year(1)", z.year(1), tree < 9 ? 2 : 0);
            }
        }).brokenIn("year", "parish, 0)", "parish, 1)")
                .brokenIn("year", "parish, 0)", "parish, 2)").brokenIn("year", "parish, 0)", "parish, 512)");
        e.edge("it only would be", t -> t.asksOnly("year(1)", x -> x.year(1)))
                .brokenIn("year", "return", "now.held = 0;\n return")
                .brokenIn("yearOf", "brookUnder(ground, w, ground.held, felled)", "blowOver(ground, w)");
        e.says("OUTSIDE: parish.");
        e.edge("-1 and less are no parish", t -> {
            t.refused("year(-1)", OUTSIDE, x -> x.year(-1));
            t.refused("year(LOW)", OUTSIDE, x -> x.year(LOW));
        }).brokenIn("isParish", "parish == 0", "parish <= 0");
        e.edge("2 and more are no parish", t -> {
            t.refused("year(2)", OUTSIDE, x -> x.year(2));
            t.refused("year(9)", OUTSIDE, x -> x.year(9));
            t.refused("year(HIGH)", OUTSIDE, x -> x.year(HIGH));
        }).brokenIn("isParish", "parish == 1", "parish >= 1");
        e.says("PARISH 0 is at 0, PARISH 1 at 9.");
        e.edge("the parish at 0 wants cocks towards 9, the one at 9 towards 0", t -> {
            CockWar x = Due.on("HC400020C510011W112W015");
            t.due("year(0)", x.year(0), 2);
            t.due("year(1)", x.year(1), 5);
        }).brokenIn("brookBy", "lead > 0 ? 0 : 1", "lead > 0 ? 1 : 0");
    }

    private static void placed(Due t, String text, int parish, int days, int cock, int cell, int tree) {
        placed(t, Due.on(text), text, parish, days, cock, cell, tree);
    }

    private static void placed(Due t, CockWar x, String on, int parish, int days, int... plan) {
        String call = "on " + on + " placing(" + parish + ",";
        t.due(call + "0)", x.placing(parish, 0), days);
        for (int what = 1; what <= 3; what++) t.due(call + what + ")", x.placing(parish, what), plan[what - 1]);
    }

    private static void placing(Edges e) {
        e.says("PLACING: its YEAR then (what = 0), the COCK that MOVES (1; NONE), its CELL (2; NONE), "
                + "the CELL of the TREE (3; NONE).");
        e.edge("without cocks, trees, winds, or any of them", t -> {
            placed(t, "H", 0, 0, NONE, NONE, NONE);
            placed(t, "H", 1, 0, NONE, NONE, NONE);
            placed(t, "HW113W004", 0, 7, NONE, NONE, NONE);
            placed(t, "HW113W004", 1, 0, NONE, NONE, NONE);
            placed(t, "HT01C100010", 0, 0, NONE, NONE, NONE);
        }).brokenIn("seek", "days = -1;", "days = 0;\n cock = 0;");
        e.edge("a year that cannot be more than 0", t -> {
            placed(t, "HT01C100010C513490W119", 0, 0, NONE, NONE, NONE);
        }).brokenIn("tryOne", "year > days", "year > Math.max(days, 0)")
                .brokenIn("tryOne", "year > days", "year >= days");
        e.edge("to the first cell, and the last tree is felled", t -> {
            // Either cock of PARISH 1 in the lee of a tree; to the end one can move, one tree can be felled.
            placed(t, "HT13T23T33T43T53T63T73T83T93C010021C110021C503431W012", 1, 2, 0, 9, 2);
            placed(t, "HT91C810021C303411W013", 1, 3, NONE, NONE, 9);
            placed(t, "HT01T21C100020C513430C300020W113", 0, 3, 0, 0, 2);
            placed(t, "HT01C100020C513410W114", 0, 4, NONE, NONE, 0);
        }).brokenIn("seek", "goal < MOST_CELLS", "goal < MOST_CELLS - 1")
                .brokenIn("seek", "int goal = 0", "int goal = 1")
                .brokenIn("tryTrees", "c < MOST_CELLS", "c < MOST_CELLS - 1")
                .brokenIn("tryTrees", "int c = 0", "int c = 1");
        e.says("PLACING of a PARISH: it MOVES one of its COCKS, or none, then one TREE is FELLED, or none: "
                + "by which its YEAR is most;");
        e.edge("the other parish's cocks do not move", t -> {
            placed(t, "HT31C800020C013410W113", 1, 0, NONE, NONE, NONE);
            placed(t, "HT31T51C913020C810020W113", 1, 3, 1, 4, NONE);
        }).brokenIn("seek", "bit(now.parishes, c) == parish &&", "");
        e.edge("to a cell where a cock is none moves", t -> {
            // Cell 0 would do, but it is taken; cell 2 does when its tree is felled.
            placed(t, "HT01T21C100020C013430C300020W113", 0, 3, 0, 2, 2);
        }).brokenIn("seek", "&& bit(taken, goal) == 0", "");
        e.edge("to no cell ahead of the first or behind the last", t -> {
            // Only beyond the hill's end one could come out of the lee, so that the tree of the other goes.
            placed(t, "HT03T13T23T33T43T53T63T73T83C900010C800010C013420W111", 0, 0, NONE, NONE, NONE);
            placed(t, "HT13T23T33T43T53T63T73T83T93C010011C110011C903411W011", 1, 0, NONE, NONE, NONE);
        }).brokenIn("seek", "int goal = 0", "int goal = -1")
                .brokenIn("seek", "goal < MOST_CELLS", "goal <= MOST_CELLS");
        e.edge("one cock moves and one tree is felled, no more", t -> {
            // Three in the lee, and all three are needed: 6 against 5; of two it would do.
            placed(t, "HT01T21T41C100020C300020C500020C913450W113", 0, 0, NONE, NONE, NONE);
            placed(t, "HT01T21T41C100030C300030C500030C913450W113", 0, 3, 0, 0, 2);
        }).brokenIn("seek", "put(trial.cells, c, at(now.cells, c));", "")
                .brokenIn("tryTrees", "parish, 1 << c)", "parish, 3 << c | 3 << c + 1)");
        e.edge("who does not move is where it is now", t -> {
            // All three are needed: cock 1 must leave the lee, the tree of cock 2 be felled, cock 0 stay.
            placed(t, "HT31T51T81C800020C400020C600020C013450W113", 0, 3, 1, 1, 5);
        }).brokenIn("seek", "at(now.cells, c));", "at(now.cells, c + 1));")
                .brokenIn("seek", "put(trial.cells, c, at(now.cells, c));", "");
        e.edge("the one tree that does it, on whatever cell, and none is felled but in its turn", t -> {
            for (int tree = 0; tree <= 9; tree++) {
                String text = Due.lee(tree, 5, 3);
                placed(t, text, tree < 9 ? 1 : 0, 2, NONE, NONE, NONE);
                placed(t, text, tree < 9 ? 0 : 1, 2, NONE, NONE, tree);
            }
        }).brokenIn("tryTrees", "parish, 0)", "parish, 1)")
                .brokenIn("tryTrees", "parish, 0)", "parish, 2)").brokenIn("tryTrees", "parish, 0)", "parish, 512)")
                .brokenIn("tryTrees", "1 << c", "2 << c");
        e.edge("who is held now is so then", t -> {
            // Cock 0 is held towards 0: wherever it is, it counts for PARISH 1.
            CockWar x = Due.on("HC410050C500010W113");
            x.hold(0);
            placed(t, x, "one held", 1, 3, NONE, NONE, NONE);
            placed(t, x, "one held", 0, 0, NONE, NONE, NONE);
        }).brokenIn("yearOf", "ground.held", "0");
        e.edge("the year is that of all winds", t -> {
            // Under WIND 1 alone; in the lee on cell 2 under WIND 0 too.
            placed(t, "HC000021C913410W015W116", 0, 6, NONE, NONE, NONE);
            placed(t, "HT31C000021C913410W015W116", 0, 11, 0, 2, NONE);
        }).brokenIn("yearOf", "sum += at(days, w);", "sum = Math.max(sum, at(days, w));");
        e.edge("it only would be", t -> {
            t.asksOnly("placing(0,1)", x -> x.placing(0, 1));
            t.asksOnly("placing(1,3)", x -> x.placing(1, 3));
        }).brokenIn("placing", "plan.seek(now, air, parish);", "plan.seek(now, air, parish);\n now.copyFrom(plan.trial);"
                + "\n now.held = 0;").brokenIn("placing", "plan.seek(now, air, parish);", "acts.remember(now);\n"
                + "plan.seek(now, air, parish);");
        e.says("OUTSIDE: parish, what.");
        e.edge("less than 0 is no parish, and nothing of it", t -> {
            t.refused("placing(-1,0)", OUTSIDE, x -> x.placing(-1, 0));
            t.refused("placing(LOW,0)", OUTSIDE, x -> x.placing(LOW, 0));
            t.refused("placing(0,-1)", OUTSIDE, x -> x.placing(0, -1));
            t.refused("placing(0,LOW)", OUTSIDE, x -> x.placing(0, LOW));
        }).brokenIn("isParish", "parish == 0", "parish <= 0").brokenIn("placing", "what < 0", "what < -1");
        e.edge("2 is no parish, 4 is nothing of it, nor are more", t -> {
            t.refused("placing(2,0)", OUTSIDE, x -> x.placing(2, 0));
            t.refused("placing(HIGH,0)", OUTSIDE, x -> x.placing(HIGH, 0));
            t.refused("placing(1,4)", OUTSIDE, x -> x.placing(1, 4));
            t.refused("placing(1,HIGH)", OUTSIDE, x -> x.placing(1, HIGH));
        }).brokenIn("isParish", "parish == 1", "parish >= 1").brokenIn("placing", "what > 3", "what > 4");
    }

    private static void placingOfLikeOnes(Edges e) {
        e.says("of like ones: no MOVE, then the least COCK and CELL;");
        e.edge("no move goes ahead of one, though a tree must be felled", t -> {
            placed(t, "HT01C100020W113C513410", 0, 3, NONE, NONE, 0);
        }).brokenIn("seek", "tryTrees(air, parish, NONE, NONE);", "tryOne(air.yearOf(trial, parish, 0), NONE, NONE, NONE);");
        e.edge("of cocks the least, of its cells the least", t -> {
            // Either of PARISH 0's two cocks may come out of the lee, the tree of the other goes.
            placed(t, "HT01T21C300020C513430C100020W113", 0, 3, 0, 0, 0);
            placed(t, "HT21T01C013430C100020C300020W113", 0, 3, 1, 2, 2);
        }).brokenIn("tryOne", "year > days", "year > days || year == days && cock >= 0 && mover > cock")
                .brokenIn("tryOne", "year > days", "year > days || year == days && mover == cock && goal > cell");
        e.says("of like ones of these no TREE, then the least CELL.");
        e.edge("no tree goes ahead of one", t -> {
            placed(t, "HT01T93C500010W113", 0, 3, NONE, NONE, NONE);
            placed(t, "HT31T51C913020C810020W113", 1, 3, 1, 4, NONE);
        }).brokenIn("tryTrees", "tryOne(air.yearOf(trial, parish, 0), mover, goal, NONE);",
                "tryOne(air.yearOf(trial, parish, 0) - 1, mover, goal, NONE);")
                .brokenIn("tryOne", "year > days", "year > days || year == days && mover == cock && goal == cell && tree == NONE");
        e.edge("of trees the one on the least cell", t -> {
            placed(t, "HT21T01C300020C100020W113C513410", 0, 3, NONE, NONE, 0);
        }).brokenIn("tryOne", "year > days", "year > days || year == days && mover == cock && goal == cell && tree >= 0");
    }

    private static void trees(Edges e) {
        e.says("TREES, as bits; NONE.");
        e.edge("no tree, if it is its own already", t -> {
            t.due("trees(0,0)", Due.on("HT01T93C500010W111").trees(0, 0), 0);
            t.due("without trees or cocks", Due.on("HW111").trees(0, 0), 0);
        }).brokenIn("trees", "int felled = 0", "int felled = 1");
        e.edge("NONE, if no trees do it", t -> {
            t.due("too light", Due.on("HT01T21C100010C300010C513430W111").trees(0, 0), NONE);
            t.due("without trees", Due.on("HC400050W001").trees(1, 0), NONE);
        }).brokenIn("trees", "int fewest = NONE;", "int fewest = NONE + 9;")
                .brokenIn("trees", "return fewest;", "return fewest == NONE ? 0 : fewest;");
        e.edge("the trees on the first cell and the last", t -> {
            t.due("the one on 0", Due.on("HT01C100020C913410W111").trees(0, 0), 1);
            t.due("the one on 9", Due.on("HT92C810021C003411W011").trees(1, 0), 512);
        }).brokenIn("trees", "felled <= ALL_CELLS", "felled < 512")
                .brokenIn("yieldingTo", "bit(felled, windward)", "bit(felled & ~1, windward)");
        e.says("TREES for a PARISH and a WIND: the fewest TREES");
        e.edge("one of a great number goes ahead of two of small ones", t -> {
            t.due("16, not 5", Due.on("HT01T21T41C100020C300020C500040C913430W111").trees(0, 0), 16);
            t.due("six cocks, five trees",
                    Due.on("HT01T21T41T61T81C100010C300010C500010C700010C900010C013450W111").trees(0, 0), 341);
        }).brokenIn("trees", "Integer.bitCount(felled) < Integer.bitCount(fewest)", "felled < fewest")
                .brokenIn("trees", "(felled & ~standing) == 0", "felled < 256 && (felled & ~standing) == 0");
        e.says("(bits of CELLS; of like ones the least) that, FELLED, make THE BROOK its own UNDER it; NONE.");
        e.edge("the one tree that does it, on whatever cell", t -> {
            for (int tree = 0; tree <= 9; tree++) {
                CockWar x = Due.on(Due.lee(tree, 5, 3));
                t.due("tree on " + tree, x.trees(tree < 9 ? 0 : 1, 0), 1 << tree);
                t.due("none for the other", x.trees(tree < 9 ? 1 : 0, 0), 0);
            }
        }).brokenIn("trees", "felled <= ALL_CELLS", "felled < 256")
                .brokenIn("trees", "for (int felled = 0", "for (int felled = 2");
        e.edge("under each wind its own", t -> {
            for (int number = 0; number < 4; number++) {
                CockWar x = Due.on(Due.oneTo0(EITHER, number));
                for (int w = 0; w < 4; w++) t.due("trees(1," + w + ")", x.trees(1, w), w == number ? 0 : NONE);
            }
        }).brokenIn("trees", "air.brookUnder(now, wind,", "air.brookUnder(now, 0,");
        e.edge("of two trees that do it the lesser", t -> {
            t.due("1, not 4", Due.on("HT01T21C100020C300020C913410W111").trees(0, 0), 1);
        }).brokenIn("trees", "Integer.bitCount(felled) < Integer.bitCount(fewest)",
                "Integer.bitCount(felled) <= Integer.bitCount(fewest)");
        e.edge("only trees that stand can be felled", t -> {
            CockWar x = Due.on("HT01T21C100020C300020C913430W111");
            t.due("both", x.trees(0, 0), 5);
            x.fell(2);
            t.due("the one that stands", x.trees(0, 0), 1);
            x.fell(0);
            t.due("none is needed", x.trees(0, 0), 0);
        }).brokenIn("trees", "(felled & ~standing) == 0", "(felled & 5) == 5");
        e.edge("who is held is not set free by felling", t -> {
            CockWar x = Due.on("HT01C100020C913410W111");
            x.hold(0);
            t.due("held", x.trees(0, 0), NONE);
        }).brokenIn("trees", "now.held, felled", "0, felled");
        e.edge("the trees only would be felled", t -> t.asksOnly("trees(1,0)", x -> x.trees(1, 0)))
                .brokenIn("trees", "return fewest;", "put(now.trees, 0, 0);\n return fewest;");
        e.says("OUTSIDE: parish;");
        e.edge("neither -1 nor 2 is a parish, nor what is beyond", t -> {
            t.refused("trees(-1,0)", OUTSIDE, x -> x.trees(-1, 0));
            t.refused("trees(LOW,0)", OUTSIDE, x -> x.trees(LOW, 0));
            t.refused("trees(2,0)", OUTSIDE, x -> x.trees(2, 0));
            t.refused("trees(HIGH,0)", OUTSIDE, x -> x.trees(HIGH, 0));
        }).brokenIn("isParish", "parish == 0", "parish <= 0").brokenIn("isParish", "parish == 1", "parish >= 1");
        e.says("UNKNOWN: wind.");
        e.edge("there is no wind ahead of the first or behind the last", t -> {
            t.refused("trees(0,-1)", UNKNOWN, x -> x.trees(0, -1));
            t.refused("trees(0,LOW)", UNKNOWN, x -> x.trees(0, LOW));
            t.refused("trees(1,2)", UNKNOWN, x -> x.trees(1, 2));
            t.refused("trees(1,HIGH)", UNKNOWN, x -> x.trees(1, HIGH));
            t.refused("trees(0,0) of a new object", UNKNOWN, CockWar::new, x -> x.trees(0, 0));
        }).brokenIn("hasWind", "wind >= 0", "wind >= -1").brokenIn("hasWind", "wind < winds", "wind <= winds");
        e.says("REFUSALS, of several the first that a call names");
        e.edge("here OUTSIDE goes ahead of UNKNOWN", t -> {
            t.refused("trees(2,2)", OUTSIDE, x -> x.trees(2, 2));
            t.refused("trees(-1,-1)", OUTSIDE, x -> x.trees(-1, -1));
        }).brokenIn("trees", "if (!isParish(parish))", "if (!isParish(parish) && air.hasWind(wind))");
    }

    private static void decides(Edges e) {
        e.says("DECIDES, as bits.");
        e.edge("none of no cocks, and the sixth", t -> {
            t.due("no cocks", Due.on("HW111").decides(0), 0);
            t.due("the sixth, even", Due.on("HC000010C100010C200010C300010C400010C510091W001").decides(0), 32);
            t.due("the sixth, 2 and 0", Due.on("HC000011C100011C200010C300010C400010C510091W001").decides(0), 32);
        }).brokenIn("decides", "c < now.cocks", "c < now.cocks - 1")
                .brokenIn("decides", "c < now.cocks", "c < 5")
                .brokenIn("decides", "int deciding = 0;", "int deciding = now.cocks == 0 ? 1 : 0;");
        e.says("DECIDES UNDER a WIND: COCKS (bits) by each of which alone, pointing otherwise behind it, "
                + "THE BROOK would be another's than it is then");
        e.edge("each alone, not two of them", t -> {
            // 4 and 3 and 2 against 7: the first or the second alone does it, the third makes it even.
            t.due("decides(0)", Due.on("HC400041C500031C600021C710070W001").decides(0), 3);
            t.due("two that would do it together", Due.on("HC400031C500031C610020W001").decides(0), 0);
        }).brokenIn("decides", "behind ^ 1 << c", "behind & ~(1 << c + 1) ^ 1 << c")
                .brokenIn("decides", "behind ^ 1 << c", "behind ^ 3 << c");
        e.edge("by how it points behind the wind, who is held now too", t -> {
            CockWar x = Due.on("HC400050C510030W111");
            t.due("both towards 9", x.decides(0), 0);
            x.hold(1);
            t.due("one held towards 0", x.decides(0), 1);
        }).brokenIn("decides", "air.waysBehind(now, wind, now.held, 0)", "now.ways")
                .brokenIn("decides", "air.waysBehind(now, wind, now.held, 0)", "air.waysBehind(now, wind, 0, 0)");
        e.edge("who is in the lee of a tree points as before, on whatever cell it stands", t -> {
            t.due("one towards 9", Due.on("HT01C110030C500050W111").decides(0), 2);
            // 3 against 6: the 5 alone decides. Were the 3 not in the lee, no one would.
            for (int tree = 0; tree <= 9; tree++) t.due("tree on " + tree, Due.on(Due.lee(tree, 3, 5, 1)).decides(0), 2);
        }).brokenIn("decides", "now.held, 0)", "now.held, 1)")
                .brokenIn("decides", "now.held, 0)", "now.held, 2)").brokenIn("decides", "now.held, 0)", "now.held, 512)");
        e.edge("under each wind its own", t -> {
            for (int number = 0; number < 4; number++) {
                CockWar x = Due.on(Due.oneTo0(EITHER, number));
                for (int w = 0; w < 4; w++) t.due("decides(" + w + ")", x.decides(w), w == number ? 3 : 0);
            }
        }).brokenIn("decides", "air.waysBehind(now, wind,", "air.waysBehind(now, 0,");
        e.says("(even so: it stays whose it was ahead of the WIND).");
        e.edge("even, it stays whose it was", t -> {
            CockWar x = Due.on("HC400031W001W011");
            t.due("PARISH 0's, 3 and 0, or even", x.decides(0), 0);
            x.capture(0);
            x.blow(1);
            x.capture(0);
            x.hold(0);
            t.due("PARISH 1's, even, or 3 and 0", x.decides(0), 1);
            CockWar even = Due.on("HC400031C510030W001");
            t.due("PARISH 0's, 3 and 3", even.decides(0), 1);
            even.capture(0);
            even.blow(0);
            even.capture(0);
            t.due("PARISH 1's, 3 and 3", even.decides(0), 2);
        }).brokenIn("brookBy", "return brook;", "return 0;")
                .brokenIn("brookBy", "return brook;", "return 1;");
        e.edge("it only would be", t -> t.asksOnly("decides(0)", x -> x.decides(0)))
                .brokenIn("decides", "return deciding;", "now.ways = behind;\n return deciding;")
                .brokenIn("decides", "return deciding;", "now.brook = owner;\n now.held = 0;\n return deciding;");
        e.says("UNKNOWN.");
        e.edge("-1 and less are no wind", t -> {
            t.refused("decides(-1)", UNKNOWN, x -> x.decides(-1));
            t.refused("decides(LOW)", UNKNOWN, x -> x.decides(LOW));
        }).brokenIn("hasWind", "wind >= 0", "wind >= -1");
        e.edge("there is no wind behind the last", t -> {
            t.refused("decides(2)", UNKNOWN, x -> x.decides(2));
            t.refused("decides(HIGH)", UNKNOWN, x -> x.decides(HIGH));
            t.refused("decides(0) of a new object", UNKNOWN, CockWar::new, x -> x.decides(0));
        }).brokenIn("hasWind", "wind < winds", "wind <= winds");
    }

    private static void power(Edges e) {
        e.says("POWER of a COCK: of all ways in which the other COCKS may point, in how many THE BROOK is "
                + "another's by how it points (even: whose it is now).");
        e.edge("alone there is one way, and even is whose it is now", t -> {
            t.due("PARISH 0's brook, its own", Due.on("HC400050").power(0), 0);
            t.due("PARISH 0's brook, the other's", Due.on("HC410050").power(0), 1);
            CockWar x = Due.on("HC410050C500010W001");
            x.blow(0);
            t.due("PARISH 1's brook, of the light one", x.power(1), 1);
            t.due("PARISH 1's brook, of the heavy one", x.power(0), 1);
        }).brokenIn("brookBy", "return brook;", "return 0;")
                .brokenIn("brookBy", "return brook;", "return 1;")
                .brokenIn("power", "int number = 0;", "int number = 1;");
        e.edge("of six cocks at most 32, and the sixth has a power too", t -> {
            // PARISH 0's of weight 9 against five of weight 1; even alone, when all point away, is whose it is now.
            CockWar x = Due.on("HC000090C110010C210010C310010C410010C510010W001");
            t.due("of the heavy one", x.power(0), 31);
            t.due("of the sixth", x.power(5), 1);
            x.blow(0);
            t.due("behind PARISH 1's brook", x.power(0), 32);
            t.due("of the sixth then", x.power(5), 0);
            CockWar y = Due.on("HC010010C110010C210010C310010C410010C500090W001");
            t.due("of a heavy sixth", y.power(5), 31);
        }).brokenIn("power", "ways <= every", "ways < every >> 1")
                .brokenIn("power", "ways <= every", "ways <= every && number < 31")
                .brokenIn("power", "int own = 1 << cock;", "int own = 1 << (cock & 3);");
        e.says("POWER.");
        e.edge("neither how they point nor who is held matters", t -> {
            CockWar x = Due.on("HC400021C510031C600020W111");
            CockWar y = Due.on("HC400020C510030C600021W111");
            y.hold(0);
            y.hold(2);
            for (int c = 0; c < 3; c++) t.due("power(" + c + ")", y.power(c), x.power(c));
        }).brokenIn("power", "int number = 0;", "int number = now.ways & 1;")
                .brokenIn("power", "int own = 1 << cock;", "int own = now.held & 1 | 1 << cock;");
        e.edge("it only might be", t -> t.asksOnly("power(1)", x -> x.power(1)))
                .brokenIn("power", "return number;", "now.ways = 0;\n return number;")
                .brokenIn("power", "return number;", "now.brook = 0;\n return number;");
        e.says("UNKNOWN.");
        e.edge("-1 and less are no cock", t -> {
            t.refused("power(-1)", UNKNOWN, x -> x.power(-1));
            t.refused("power(LOW)", UNKNOWN, x -> x.power(LOW));
        }).brokenIn("hasCock", "cock >= 0", "cock >= -1");
        e.edge("there is no cock behind the last", t -> {
            t.refused("power(3)", UNKNOWN, x -> x.power(3));
            t.refused("power(HIGH)", UNKNOWN, x -> x.power(HIGH));
            t.refused("power(0) of a new object", UNKNOWN, CockWar::new, x -> x.power(0));
        }).brokenIn("hasCock", "cock < cocks", "cock <= cocks");
    }

    private static final String TWO = "HC400050C510030W111W011";

    private static void judge(Edges e) {
        e.says("JUDGED: n WINDS (1 to 6) that BLOW from now on, one behind the other");
        e.edge("one wind, and six", t -> {
            CockWar x = Due.on(TWO);
            t.due("judge(1,0)", x.judge(1, 0), NONE);
            t.due("judge(1,1)", x.judge(1, 1), 0);
            t.due("judge(6,0)", x.judge(6, 0), NONE);
            t.due("judge(6,1)", x.judge(6, 1), 5);
        }).brokenIn("judge", "n < 1", "n < 2").brokenIn("judge", "n > 6", "n > 5")
                .brokenIn("judge", "place < n", "place < Math.min(n, 5)");
        e.edge("each goes on from the one ahead of it", t -> {
            // Behind WIND 0 the cock points towards 9 for ever; from now on WIND 1 would leave it towards 0.
            CockWar x = Due.on("HC410030W111W001");
            t.due("judge(1,1)", x.judge(1, 1), 0);
            t.due("judge(2,1)", x.judge(2, 1), NONE);
            t.due("judge(2,10)", x.judge(2, 10), 0);
        }).brokenIn("judge", "air.blowOver(trial, wind) != 0", "air.brookUnder(now, wind, now.held, 0) != 0");
        e.says("(who is HELD now counts for the first alone),");
        e.edge("who is held is so for the first wind, and no more", t -> {
            CockWar x = Due.on("HC410030C500021W111");
            x.hold(0);
            t.due("held, judge(1,0)", x.judge(1, 0), 0);
            CockWar y = Due.on("HC400050C510030W111W011");
            y.blow(0);
            y.hold(0);
            y.hold(1);
            t.due("judge(1,1)", y.judge(1, 1), NONE);
            t.due("judge(2,11)", y.judge(2, 11), 1);
        }).brokenIn("judge", "trial.copyFrom(now);", "trial.copyFrom(now);\n trial.held = 0;")
                .brokenIn("blowOver", "ground.held = 0;", "");
        e.says("told as figures (the highest first):");
        e.edge("the figures that are not written are 0", t -> {
            CockWar x = Due.on(TWO);
            t.due("judge(3,1)", x.judge(3, 1), 2);
            t.due("judge(3,10)", x.judge(3, 10), 1);
            t.due("judge(3,100)", x.judge(3, 100), 0);
            CockWar y = Due.on("HC400050C510030W011W111");
            t.due("WIND 0 to 0, judge(3,111)", y.judge(3, 111), NONE);
            t.due("WIND 0 to 0, judge(3,11)", y.judge(3, 11), 0);
        }).brokenIn("judge", "n - 1 - place", "place")
                .brokenIn("judge", "n - 1 - place", "Math.max(0, n - 2 - place)");
        e.says("the place of the first that there is not, or behind which THE BROOK is not PARISH 0's; NONE: none.");
        e.edge("a wind that there is not", t -> {
            CockWar x = Due.on(TWO);
            t.due("judge(3,2)", x.judge(3, 2), 2);
            t.due("judge(3,90)", x.judge(3, 90), 1);
            t.due("judge(6,999999)", x.judge(6, 999999), 0);
            t.due("judge(3,21), the first of both", x.judge(3, 21), 1);
            t.due("judge(3,12), the first of both", x.judge(3, 12), 1);
            t.due("no winds", Due.on("HC400010").judge(1, 0), 0);
            t.due("a new object", new CockWar().judge(6, 0), 0);
        }).brokenIn("judge", "!air.hasWind(wind) ||", "air.hasWind(wind) &&")
                .brokenIn("hasWind", "wind < winds", "wind <= winds");
        e.edge("even, the brook stays PARISH 0's, or PARISH 1's", t -> {
            CockWar x = Due.on("HC400031C510030W001");
            t.due("PARISH 0's", x.judge(6, 0), NONE);
            x.capture(0);
            x.blow(0);
            x.capture(0);
            t.due("PARISH 1's", x.judge(6, 0), 0);
        }).brokenIn("brookBy", "return brook;", "return 0;").brokenIn("brookBy", "return brook;", "return 1;");
        e.says("JUDGED; NONE.");
        e.edge("it only might blow", t -> {
            t.asksOnly("judge(6,0)", x -> x.judge(6, 0));
            t.asksOnly("judge(2,1)", x -> x.judge(2, 1));
        }).brokenIn("judge", "air.blowOver(trial, wind)", "air.blowOver(now, wind)")
                .brokenIn("judge", "trial.copyFrom(now);", "acts.remember(now);\n trial.copyFrom(now);");
    }

    private static void judgeRefused(Edges e) {
        e.says("OUTSIDE: n,");
        e.edge("0 and less are no winds", t -> {
            t.refused("judge(0,0)", OUTSIDE, x -> x.judge(0, 0));
            t.refused("judge(-1,0)", OUTSIDE, x -> x.judge(-1, 0));
            t.refused("judge(LOW,0)", OUTSIDE, x -> x.judge(LOW, 0));
        }).brokenIn("judge", "n < 1", "n < 0").brokenIn("judge", "n < 1", "n == 0");
        e.edge("7 and more are too many", t -> {
            t.refused("judge(7,0)", OUTSIDE, x -> x.judge(7, 0));
            t.refused("judge(HIGH,0)", OUTSIDE, x -> x.judge(HIGH, 0));
        }).brokenIn("judge", "n > 6", "n > 7").brokenIn("judge", "n > 6", "n == 7");
        e.says("row (0 or more, n figures at most).");
        e.edge("-1 and less are no row", t -> {
            t.refused("judge(1,-1)", OUTSIDE, x -> x.judge(1, -1));
            t.refused("judge(6,LOW)", OUTSIDE, x -> x.judge(6, LOW));
        }).brokenIn("judge", "row < 0", "row < -1");
        e.edge("n figures at most", t -> {
            int first = 10;
            for (int n = 1; n <= 6; n++) {
                int figures = n, most = first - 1, more = first;
                t.due("judge(" + n + "," + most + ")", Due.busy().judge(n, most), 0);
                t.refused("judge(" + n + "," + more + ")", OUTSIDE, x -> x.judge(figures, more));
                first *= 10;
            }
            t.refused("judge(6,HIGH)", OUTSIDE, x -> x.judge(6, HIGH));
        }).brokenIn("judge", "cutFigures(row, n) > 0", "cutFigures(row, n) > 1")
                .brokenIn("judge", "cutFigures(row, n) > 0", "row > 999999")
                .brokenIn("judge", "cutFigures(row, n) > 0", "row >= 100000");
    }
}
