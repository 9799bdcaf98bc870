/** Promises 1 to 8: the hill. */
final class HillEdges {
    private static final int UNKNOWN = Due.UNKNOWN, OUTSIDE = Due.OUTSIDE, STATE = Due.STATE, FULL = Due.FULL;
    private static final int NONE = Due.NONE, LOW = Due.LOW, HIGH = Due.HIGH;
    private static final String TEN_TREES = "HT03T13T23T33T43T53T63T73T83T93";
    private static final String SIX_COCKS = "HC000010C100010C200010C300010C400010C500010";
    private static final String FOUR_WINDS = "HW111W111W111W111";

    private HillEdges() {}

    static void tell(Edges e) {
        e.promise(1);
        numbers(e);
        newObject(e);
        e.promise(2);
        write(e);
        e.promise(3);
        wipe(e);
        e.promise(4);
        fault(e);
        faultAtTrees(e);
        faultAtCocks(e);
        faultAtWinds(e);
        e.promise(5);
        hill(e);
        hillAnew(e);
        e.promise(6);
        tree(e);
        e.promise(7);
        cock(e);
        e.promise(8);
        wind(e);
    }

    private static void numbers(Edges e) {
        e.says("REFUSALS, of several the first that a call names: UNKNOWN (there is no such COCK, WIND, SLOT), "
                + "OUTSIDE (another number is not as told), STATE (as told), FULL.");
        e.edge("each refusal has its number", t -> {
            t.due("UNKNOWN", constant("UNKNOWN"), -1);
            t.due("OUTSIDE", constant("OUTSIDE"), -2);
            t.due("STATE", constant("STATE"), -3);
            t.due("FULL", constant("FULL"), -4);
        }).brokenIn("", "FULL = -4", "FULL = -5").brokenIn("", "UNKNOWN = -1", "UNKNOWN = -2");
        e.says("NONE is -9.");
        e.edge("NONE has its number", t -> {
            t.due("NONE", constant("NONE"), -9);
            t.due("fault of H", Due.on("H").fault(), -9);
        }).brokenIn("", "NONE = -9", "NONE = -5");
        e.says("What is refused changes nothing.");
        e.edge("nothing is refused to a new object that changes it", t -> {
            CockWar x = new CockWar();
            t.due("what is refused", refusedByNewObject(x), 19);
            t.same("what is refused", x, new CockWar());
        }).brokenIn("undo", "return acts", "now.days++;\n return acts")
                .brokenIn("years", "return OUTSIDE", "drawn = drawn + 1;\n return OUTSIDE")
                .brokenIn("see", "return UNKNOWN", "sights.add(0, 1);\n return UNKNOWN");
    }

    private static int refusedByNewObject(CockWar x) {
        int[] answers = {
            x.write(256), x.hill(), x.tree(10), x.cock(0, 0), x.wind(0, 0), x.blow(0), x.fell(0), x.move(0, 0),
            x.grease(0), x.capture(0), x.hold(0), x.undo(), x.see(0, 0), x.judge(0, 0), x.years(0), x.keep(2),
            x.again(0), x.again(2), x.count(11)
        };
        int refused = 0;
        for (int answer : answers) refused += answer >= FULL && answer <= UNKNOWN ? 1 : 0;
        return refused;
    }

    /** Looked up when it runs: the compiler would write the number itself into this class. */
    private static long constant(String name) {
        try {
            return CockWar.class.getField(name).getInt(null);
        } catch (ReflectiveOperationException none) {
            return 0;
        }
    }

    private static void newObject(Edges e) {
        e.says("Nothing on the hill.");
        e.edge("no tree", t -> {
            CockWar x = new CockWar();
            for (int cell = 0; cell <= 9; cell++) t.due("tree(" + cell + ")", x.tree(cell), 0);
            t.due("CELLS with TREES", x.count(7), 0);
        }).brokenIn("CockWar", "now = new Hill();", "now = new Hill();\n put(now.trees, 9, 1);");
        e.edge("no cock", t -> {
            CockWar x = new CockWar();
            t.due("cock(0,0)", x.cock(0, 0), UNKNOWN);
            t.due("COCKS", x.count(1), 0);
        }).brokenIn("CockWar", "now = new Hill();", "now = new Hill();\n now.cocks = 1;");
        e.edge("no wind", t -> {
            CockWar x = new CockWar();
            t.due("wind(0,0)", x.wind(0, 0), UNKNOWN);
            t.due("under(0)", x.under(0), UNKNOWN);
            t.due("WINDS", x.count(2), 0);
            t.due("winds", x.winds(), 0);
        }).brokenIn("CockWar", "air = new Air();", "air = new Air();\n air.winds = 1;");
        e.says("At first there is nothing.");
        e.edge("no letter, no hill", t -> {
            CockWar x = new CockWar();
            t.due("letters", x.count(0), 0);
            t.due("fault", x.fault(), 0);
            t.due("hill", x.hill(), STATE);
            t.due("wipe", x.wipe(), 0);
        }).brokenIn("CockWar", "reader = new Reader();", "reader = new Reader();\n reader.append('H');");
        e.edge("no day, nobody held, the brook PARISH 0's", t -> {
            CockWar x = new CockWar();
            for (int what = 3; what <= 8; what++) t.due("count(" + what + ")", x.count(what), 0);
        }).brokenIn("CockWar", "now = new Hill();", "now = new Hill();\n now.brook = 1;")
                .brokenIn("CockWar", "now = new Hill();", "now = new Hill();\n now.days = 1;")
                .brokenIn("CockWar", "now = new Hill();", "now = new Hill();\n now.held = 1;");
        e.edge("no act", t -> {
            CockWar x = new CockWar();
            t.due("acts", x.count(9), 0);
            t.due("undo", x.undo(), STATE);
        }).brokenIn("CockWar", "acts = new ActRow();", "acts = new ActRow();\n acts.remember(now);");
        e.edge("nothing kept", t -> {
            CockWar x = new CockWar();
            t.due("again(0)", x.again(0), STATE);
            t.due("again(1)", x.again(1), STATE);
        }).brokenIn("CockWar", "slots = new Slots();", "slots = new Slots();\n slots.filled = 1;")
                .brokenIn("CockWar", "slots = new Slots();", "slots = new Slots();\n slots.filled = 2;");
        e.says("6 such at most, none at first");
        e.edge("nothing seen", t -> {
            CockWar x = new CockWar();
            t.due("seen", x.count(10), 0);
            t.due("unsee", x.unsee(), 0);
        }).brokenIn("CockWar", "sights = new Sights();", "sights = new Sights();\n sights.add(0, 0);");
        e.says("THE SEED, a long; 0 at first");
        e.edge("the seed is 0", t -> t.due("seed", new CockWar().seed(5), 0))
                .brokenIn("CockWar", "drawn = 0;", "drawn = 1;");
    }

    private static void write(Edges e) {
        e.says("A letter (0 to 255) comes behind THE TEXT: how long it is.");
        e.edge("the least letter is 0", t -> t.due("write(0)", new CockWar().write(0), 1))
                .brokenIn("write", "letter < 0", "letter < 1");
        e.edge("the greatest letter is 255", t -> t.due("write(255)", new CockWar().write(255), 1))
                .brokenIn("write", "letter > 255", "letter > 254");
        e.edge("each comes behind the others", t -> {
            CockWar x = new CockWar();
            String text = "HT93";
            for (int i = 0; i < 4; i++) t.due("write " + i, x.write(text.charAt(i)), i + 1);
            t.due("hill", x.hill(), 0);
            t.due("tree(9)", x.tree(9), 3);
        }).brokenIn("append", "put(letters, length, letter)", "put(letters, 0, letter)");
        e.says("OUTSIDE");
        e.edge("-1 and less are too small", t -> {
            t.refused("write(-1)", OUTSIDE, x -> x.write(-1));
            t.refused("write(LOW)", OUTSIDE, x -> x.write(LOW));
            // Its last eight bits are those of H.
            t.refused("write('H' - 256)", OUTSIDE, x -> x.write('H' - 256));
        }).brokenIn("write", "letter < 0", "letter < -1");
        e.edge("256 and more are too large", t -> {
            t.refused("write(256)", OUTSIDE, x -> x.write(256));
            t.refused("write(HIGH)", OUTSIDE, x -> x.write(HIGH));
            t.refused("write('H' + 256)", OUTSIDE, x -> x.write('H' + 256));
        }).brokenIn("write", "letter > 255", "letter > 256");
        e.says("; FULL: there are 64.");
        e.edge("the 64th letter comes", t -> {
            CockWar x = new CockWar();
            for (int i = 1; i <= 64; i++) t.due("write " + i, x.write('H'), i);
        }).brokenIn("", "MOST_LETTERS = 64", "MOST_LETTERS = 63");
        e.edge("a 65th does not", t -> t.refused("the 65th", FULL, () -> Due.on(Due.LONGEST), x -> x.write('H')))
                .brokenIn("append", "length >= MOST_LETTERS", "length > MOST_LETTERS")
                .brokenIn("append", "return FULL;", "put(letters, 63, letter);\n return FULL;");
        e.says("REFUSALS, of several the first that a call names");
        e.edge("OUTSIDE goes ahead of FULL", t -> {
            t.refused("write(256) behind 64", OUTSIDE, () -> Due.on(Due.LONGEST), x -> x.write(256));
            t.refused("write(-1) behind 64", OUTSIDE, () -> Due.on(Due.LONGEST), x -> x.write(-1));
        }).brokenIn("write", "if (letter < 0", "if (reader.length < 64 && letter < 0")
                .brokenIn("write", "|| letter > 255", "|| reader.length < 64 && letter > 255");
    }

    private static void wipe(Edges e) {
        e.says("THE TEXT is empty: how long it was.");
        e.edge("an empty text was 0 long", t -> {
            CockWar x = new CockWar();
            t.due("wipe", x.wipe(), 0);
            x.write('H');
            x.wipe();
            t.due("wipe behind a wipe", x.wipe(), 0);
        }).brokenIn("wipe", "reader.length = 0;", "reader.length = was > 0 ? 1 : 0;");
        e.edge("a full text was 64 long, and 64 come again", t -> {
            CockWar x = Due.on(Due.LONGEST);
            t.due("wipe", x.wipe(), 64);
            t.due("letters", x.count(0), 0);
            for (int i = 1; i <= 64; i++) t.due("write " + i, x.write('T'), i);
            t.due("a 65th", x.write('T'), FULL);
        }).brokenIn("wipe", "reader.length = 0;", "reader.length = was / 64;");
        e.edge("it is no hill any more, but THE HILL stays", t -> {
            CockWar x = Due.on(Due.LONGEST);
            x.wipe();
            t.due("fault", x.fault(), 0);
            t.due("hill", x.hill(), STATE);
            t.due("COCKS", x.count(1), 6);
            t.due("WINDS", x.count(2), 3);
            t.due("TREES", x.count(7), 515);
        }).brokenIn("wipe", "return was;", "now.clear();\n return was;")
                .brokenIn("wipe", "return was;", "air.winds = 0;\n return was;");
        e.edge("what was wiped is never read again", t -> {
            CockWar x = Due.on("HT93T01");
            Due.tell(x, "HT9");
            t.due("fault", x.fault(), 3);
            x.write('1');
            t.due("fault of HT91", x.fault(), NONE);
        }).brokenIn("figure", "place >= length ||", "place >= MOST_LETTERS ||");
    }

    private static void fault(Edges e) {
        e.says("FAULT: the place of the first letter by which THE TEXT can be no HILL, whatever came behind it "
                + "(its length set aside);");
        e.edge("of several wrong letters the first", t -> {
            t.faultOf("HXT9W9", 1);
            t.faultOf("HT01C91XW", 7);
        }).brokenIn("firstFault", "broken ? place :", "broken ? length - 1 :");
        e.edge("the first letter of all is 0", t -> {
            t.nextLetters("", "H");
            t.faultOf("T01", 0);
        }).brokenIn("firstFault", "at(letters, 0) != 'H'", "at(letters, 0) % 32 != 'H' % 32")
                .brokenIn("firstFault", "at(letters, 0) != 'H'", "at(letters, 0) > 'T'");
        e.edge("a part that has no room in 64 letters is no fault at its first letter", t -> {
            t.faultOf(SIX_COCKS + "W111W111W111W111T01T", 63);
            t.faultOf(SIX_COCKS + "W111W111W111T01T11W", 62);
            t.faultOf("HC000010C100010C200010C300010W111W111T01T11T21T31T41T51C", 56);
            t.faultOf("HC000010C100010C200010C300010W111W111W111T01T11T21T31T41C", 57);
            // Where there is room, it is so too.
            t.faultOf(SIX_COCKS + "T01T11T21T31T41T51T6", 63);
            t.faultOf(SIX_COCKS + "T01T11T21T31T41T51T61", NONE);
        }).brokenIn("readPart", "letter == 'T' &&", "letter == 'T' && place + 3 <= MOST_LETTERS &&")
                .brokenIn("readPart", "air.winds < MOST_WINDS", "air.winds < MOST_WINDS && place + 4 <= MOST_LETTERS");
        e.says("its length, if it is only not at its end; NONE: none.");
        e.edge("an empty text is only not at its end", t -> t.faultOf("", 0))
                .brokenIn("firstFault", "length == 0 ||", "length > 0 &&");
        e.edge("each beginning of a part is only not at its end", t -> {
            for (String text : new String[] {"HT91", "HC913491", "HW159"}) {
                for (int length = 2; length < text.length(); length++) t.faultOf(text.substring(0, length), length);
                t.faultOf(text, NONE);
            }
        }).brokenIn("firstFault", "broken ? place :", "broken && place < length ? place :");
        e.edge("64 letters may end well or not", t -> {
            t.faultOf(Due.LONGEST, NONE);
            t.faultOf(SIX_COCKS + "W111W111W111W111T01T1".substring(0, 21), 64);
        }).brokenIn("firstFault", "broken ? place :", "broken && place < MOST_LETTERS ? place :");
        e.says("FAULT; NONE.");
        e.edge("to ask for it changes nothing", t -> t.asksOnly("fault()", x -> x.fault()))
                .brokenIn("fault", "return", "acts.forget();\n return")
                .brokenIn("fault", "return", "now.brook = 0;\n return");
        e.says("A HILL is a TEXT: H, then PARTS, none or more;");
        e.edge("H alone is a hill", t -> t.faultOf("H", NONE))
                .brokenIn("firstFault", "length == 0 ||", "length < 2 ||");
        e.edge("a part begins with T, C or W, and no other letter", t -> {
            t.nextLetters("H", "TCW");
            t.nextLetters("HT01", "TCW");
        }).brokenIn("readPart", "broken = true;", "place += letter == 'H' ? 1 : 0;\n broken = letter != 'H';")
                .brokenIn("readPart", "int letter = at(letters, place);", "int letter = at(letters, place) & 127;");
        e.says("THE TEXT is letters (64 at most).");
        e.edge("a hill of 64 letters", t -> {
            t.due("letters", Due.LONGEST.length(), 64);
            t.due("hill", Due.on(Due.LONGEST).hill(), 63);
        }).brokenIn("", "MOST_LETTERS = 64", "MOST_LETTERS = 63");
    }

    private static void faultAtTrees(Edges e) {
        e.says("Tct a TREE on CELL c (each once), t high (1 to 3)");
        e.edge("a tree's cell is 0 to 9", t -> t.nextLetters("HT", "0123456789"))
                .brokenIn("readTree", "figure(treeless)", "figure(treeless & ~1)")
                .brokenIn("readTree", "figure(treeless)", "figure(treeless & ~512)")
                .brokenIn("figure", "at(letters, place) - '0'", "(at(letters, place) - '0') % 10")
                .brokenIn("figure", "at(letters, place) - '0'", "Math.abs(at(letters, place) - '0')");
        e.edge("a tree is 1 to 3 high", t -> t.nextLetters("HT9", "123"))
                .brokenIn("", "FROM_1_TO_3 = 0b1110", "FROM_1_TO_3 = 0b1111")
                .brokenIn("", "FROM_1_TO_3 = 0b1110", "FROM_1_TO_3 = 0b1100")
                .brokenIn("", "FROM_1_TO_3 = 0b1110", "FROM_1_TO_3 = 0b0110")
                .brokenIn("", "FROM_1_TO_3 = 0b1110", "FROM_1_TO_3 = 0b11110");
        e.edge("a tree is on each cell once", t -> {
            t.nextLetters("HT01T", "123456789");
            t.nextLetters("HT91C000010T53T", "01234678");
            t.faultOf("HT01T93T01", 8);
        }).brokenIn("readTree", "figure(treeless)", "figure(ALL_CELLS)");
        e.edge("ten trees stand, and no eleventh can", t -> {
            t.faultOf(TEN_TREES, NONE);
            t.nextLetters(TEN_TREES, "CW");
        }).brokenIn("readPart", "&& treeless != 0", "")
                .brokenIn("readPart", "&& treeless != 0", "&& (treeless & treeless - 1) != 0");
    }

    private static void faultAtCocks(Edges e) {
        e.says("Ccphrwd a COCK on CELL c (none has two),");
        e.edge("a cock's cell is 0 to 9", t -> t.nextLetters("HC", "0123456789"))
                .brokenIn("readCock", "ALL_CELLS &", "ALL_CELLS & ~1 &")
                .brokenIn("readCock", "ALL_CELLS &", "ALL_CELLS & ~512 &");
        e.edge("no cell has two cocks", t -> {
            t.nextLetters("HC000010C", "123456789");
            t.nextLetters("HC900010W111C400010C", "01235678");
        }).brokenIn("readCock", "ALL_CELLS & ~ground.takenCells()", "ALL_CELLS");
        e.edge("a cock and a tree may be on one cell", t -> {
            t.faultOf("HT01C000010", NONE);
            t.faultOf("HC000010T01", NONE);
        }).brokenIn("readCock", "~ground.takenCells()", "~ground.takenCells() & ~ground.treeCells()")
                .brokenIn("readPart", "~ground.treeCells()", "~ground.treeCells() & ~ground.takenCells()");
        e.says("of PARISH p (0, 1),");
        e.edge("a parish is 0 or 1", t -> t.nextLetters("HC9", "01"))
                .brokenIn("readCock", "parish = figure(BOTH)", "parish = figure(0b111)")
                .brokenIn("readCock", "parish = figure(BOTH)", "parish = figure(0b10)")
                .brokenIn("readCock", "parish = figure(BOTH)", "parish = figure(0b1)");
        e.says("h high (0 to 3),");
        e.edge("a cock is 0 to 3 high", t -> t.nextLetters("HC91", "0123"))
                .brokenIn("readCock", "height = figure(TO_3)", "height = figure(0b11111)")
                .brokenIn("readCock", "height = figure(TO_3)", "height = figure(0b1110)")
                .brokenIn("readCock", "height = figure(TO_3)", "height = figure(0b111)");
        e.says("of RUST r (0 to 4),");
        e.edge("rust is 0 to 4", t -> t.nextLetters("HC913", "01234"))
                .brokenIn("readCock", "rust = figure(TO_4)", "rust = figure(0b111111)")
                .brokenIn("readCock", "rust = figure(TO_4)", "rust = figure(0b11110)")
                .brokenIn("readCock", "rust = figure(TO_4)", "rust = figure(0b1111)");
        e.says("of WEIGHT w (1 to 9),");
        e.edge("weight is 1 to 9", t -> t.nextLetters("HC9134", "123456789"))
                .brokenIn("readCock", "weight = figure(FROM_1)", "weight = figure(0b1111111111)")
                .brokenIn("readCock", "weight = figure(FROM_1)", "weight = figure(0b1111111100)")
                .brokenIn("readCock", "weight = figure(FROM_1)", "weight = figure(0b0111111110)");
        e.says("that points towards 0 (d 0) or 9 (d 1)");
        e.edge("a cock points 0 or 1", t -> t.nextLetters("HC91349", "01"))
                .brokenIn("readCock", "way = figure(BOTH)", "way = figure(0b111)")
                .brokenIn("readCock", "way = figure(BOTH)", "way = figure(0b10)")
                .brokenIn("readCock", "way = figure(BOTH)", "way = figure(0b1)");
        e.says("COCKS (6 at most)");
        e.edge("six cocks stand, and no seventh can", t -> {
            t.faultOf(SIX_COCKS, NONE);
            t.nextLetters(SIX_COCKS, "TW");
            t.nextLetters(SIX_COCKS + "T01", "TW");
        }).brokenIn("readPart", "ground.cocks < MOST_COCKS", "ground.cocks <= MOST_COCKS")
                .brokenIn("readPart", "ground.cocks < MOST_COCKS", "ground.cocks < MOST_COCKS - 1");
    }

    private static void faultAtWinds(Edges e) {
        e.says("Wdsk a WIND that goes towards 0 (d 0) or 9 (d 1),");
        e.edge("a wind goes to 0 or 1", t -> t.nextLetters("HW", "01"))
                .brokenIn("readWind", "goal = figure(BOTH)", "goal = figure(0b111)")
                .brokenIn("readWind", "goal = figure(BOTH)", "goal = figure(0b10)")
                .brokenIn("readWind", "goal = figure(BOTH)", "goal = figure(0b1)");
        e.says("of STRENGTH s (0 to 5),");
        e.edge("strength is 0 to 5", t -> t.nextLetters("HW1", "012345"))
                .brokenIn("readWind", "strength = figure(TO_5)", "strength = figure(0b1111111)")
                .brokenIn("readWind", "strength = figure(TO_5)", "strength = figure(0b111110)")
                .brokenIn("readWind", "strength = figure(TO_5)", "strength = figure(0b11111)");
        e.says("on k DAYS of a year (1 to 9)");
        e.edge("days are 1 to 9", t -> t.nextLetters("HW15", "123456789"))
                .brokenIn("readWind", "inYear = figure(FROM_1)", "inYear = figure(0b1111111111)")
                .brokenIn("readWind", "inYear = figure(FROM_1)", "inYear = figure(0b1111111100)")
                .brokenIn("readWind", "inYear = figure(FROM_1)", "inYear = figure(0b0111111110)");
        e.says("and WINDS (4 at most)");
        e.edge("four winds stand, and no fifth can", t -> {
            t.faultOf(FOUR_WINDS, NONE);
            t.nextLetters(FOUR_WINDS, "TC");
            t.nextLetters(FOUR_WINDS + "C913491", "TC");
        }).brokenIn("readPart", "air.winds < MOST_WINDS", "air.winds <= MOST_WINDS")
                .brokenIn("readPart", "air.winds < MOST_WINDS", "air.winds < MOST_WINDS - 1");
    }

    private static void hill(Edges e) {
        e.says("THE TEXT (that stays as it is) is THE HILL");
        e.edge("the text stays, and is a hill again", t -> {
            CockWar x = Due.on(Due.BUSY);
            t.due("letters", x.count(0), Due.BUSY.length());
            t.due("fault", x.fault(), NONE);
            t.due("hill once more", x.hill(), 32);
        }).brokenIn("hill", "acts.forget();", "acts.forget();\n reader.length = 0;");
        e.says("(THE ROW of ACTS is empty, what was kept is gone; what is SEEN, THE SEED stay):");
        e.edge("no act can be undone any more", t -> {
            CockWar x = Due.busy();
            x.hill();
            t.due("acts", x.count(9), 0);
            t.due("undo", x.undo(), STATE);
        }).brokenIn("hill", "acts.forget();", "");
        e.edge("both slots are empty", t -> {
            CockWar x = Due.busy();
            x.keep(1);
            x.hill();
            t.due("again(0)", x.again(0), STATE);
            t.due("again(1)", x.again(1), STATE);
        }).brokenIn("hill", "slots.forget();", "slots.filled &= 1;")
                .brokenIn("hill", "slots.forget();", "slots.filled &= 2;");
        e.edge("what is seen stays", t -> {
            CockWar x = Due.busy();
            x.hill();
            t.due("seen", x.count(10), 1);
            t.due("by rust, either wind", x.winds(), 3);
            x.grease(0);
            t.due("it is looked at", x.winds(), 1);
        }).brokenIn("hill", "slots.forget();", "slots.forget();\n sights.number = 0;");
        e.edge("the seed stays", t -> {
            CockWar x = Due.busy();
            x.hill();
            t.due("seed", x.seed(0), 77);
        }).brokenIn("hill", "slots.forget();", "slots.forget();\n drawn = 0;");
        e.says("10 times COCKS, and WINDS.");
        e.edge("the least hill is 0", t -> {
            CockWar x = new CockWar();
            x.write('H');
            t.due("hill", x.hill(), 0);
        }).brokenIn("hill", "return 10 * now.cocks + air.winds", "return Math.max(1, 10 * now.cocks + air.winds)");
        e.edge("the greatest hill is 64", t -> {
            t.due("hill", Due.on(SIX_COCKS + "W111W111W111W111").hill(), 64);
            t.due("six cocks", Due.on(SIX_COCKS).hill(), 60);
            t.due("four winds", Due.on(FOUR_WINDS).hill(), 4);
        }).brokenIn("hill", "10 * now.cocks + air.winds", "Math.min(63, 10 * now.cocks + air.winds)");
        e.says("STATE: a FAULT.");
        e.edge("a faulty text is refused", t -> {
            for (String text : new String[] {"", "X", "HT", "HT00", "HX", SIX_COCKS + "C"}) {
                t.refused("hill of " + text, STATE, () -> {
                    CockWar x = Due.busy();
                    Due.tell(x, text);
                    return x;
                }, x -> x.hill());
            }
        }).brokenIn("hill", "reader.firstFault() != NONE", "reader.firstFault() > 0")
                .brokenIn("hill", "return STATE;", "now.copyFrom(reader.ground);\n return STATE;")
                .brokenIn("hill", "return STATE;", "air.copyFrom(reader.air);\n return STATE;")
                .brokenIn("hill", "return STATE;", "acts.forget();\n return STATE;")
                .brokenIn("hill", "return STATE;", "slots.forget();\n return STATE;");
    }

    private static void hillAnew(Edges e) {
        e.says("When THE HILL is made anew, all is as told,");
        e.edge("nothing is left of a fuller hill", t -> {
            CockWar x = Due.on("HT13T93C913491C803481W159W148");
            Due.tell(x, "HT51C200020W037");
            t.due("hill", x.hill(), 11);
            t.due("TREES", x.count(7), 32);
            int[] want = {2, 0, 0, 0, 2, 0, 0};
            for (int what = 0; what <= 6; what++) t.due("cock(0," + what + ")", x.cock(0, what), want[what]);
            t.due("cock(1,0)", x.cock(1, 0), UNKNOWN);
            t.due("wind(0,0)", x.wind(0, 0), 0);
            t.due("wind(0,1)", x.wind(0, 1), 3);
            t.due("wind(0,2)", x.wind(0, 2), 7);
            t.due("wind(1,0)", x.wind(1, 0), UNKNOWN);
            t.due("year(0)", x.year(0), 7);
            t.due("years(30)", x.years(30), 30);
            for (int i = 1; i < 30; i++) x.years(30);
            long drawn = x.seed(0);
            CockWar fresh = Due.on("HT51C200020W037");
            for (int i = 0; i < 30; i++) fresh.years(30);
            t.due("seed", drawn, fresh.seed(0));
        }).brokenIn("yearOf", "w < winds", "w <= winds")
                .brokenIn("Hill.clear", "trees[c] = 0;", "")
                .brokenIn("Hill.clear", "cocks = 0;", "cocks = Math.min(cocks, 1);")
                .brokenIn("Hill.clear", "parishes = 0;", "")
                .brokenIn("Hill.clear", "ways = 0;", "")
                .brokenIn("firstFault", "air.winds = 0;", "air.winds = Math.min(air.winds, 1);");
        e.edge("what acts changed is as told again", t -> {
            CockWar x = Due.busy();
            x.hill();
            int[][] told = {{4, 0, 0, 3, 5, 1, 0}, {5, 1, 0, 0, 6, 0, 0}, {7, 0, 3, 0, 1, 0, 0}};
            for (int c = 0; c < 3; c++) {
                for (int what = 0; what <= 6; what++) {
                    t.due("cock(" + c + "," + what + ")", x.cock(c, what), told[c][what]);
                }
            }
            t.due("tree(0)", x.tree(0), 1);
            t.due("tree(9)", x.tree(9), 3);
        }).brokenIn("Hill.copyFrom", "copyRow(from.trees, trees);", "")
                .brokenIn("Hill.copyFrom", "copyRow(from.cells, cells);", "")
                .brokenIn("Hill.copyFrom", "copyRow(from.rusts, rusts);", "")
                .brokenIn("Hill.copyFrom", "parishes = from.parishes;", "");
        e.says("THE BROOK is PARISH 0's,");
        e.edge("the brook is PARISH 0's, whosever it was", t -> {
            CockWar x = Due.busy();
            t.due("ahead", x.count(3), 1);
            x.hill();
            t.due("brook", x.count(3), 0);
            // As all point it would be PARISH 1's, but no wind blew.
            t.due("brook of a hill that leans to PARISH 1", Due.on("HC410090").count(3), 0);
        }).brokenIn("Hill.copyFrom", "brook = from.brook;", "")
                .brokenIn("hill", "acts.forget();", "acts.forget();\n now.brook = now.brookBy(now.ways);");
        e.says("nobody is HELD,");
        e.edge("nobody is held, whoever was", t -> {
            CockWar x = Due.busy();
            x.hill();
            t.due("held", x.count(8), 0);
            t.due("cock(1,6)", x.cock(1, 6), 0);
        }).brokenIn("Hill.copyFrom", "held = from.held;", "");
        e.says("no DAY went by.");
        e.edge("no day went by, however many did", t -> {
            CockWar x = Due.busy();
            x.hill();
            t.due("days", x.count(4), 0);
        }).brokenIn("Hill.copyFrom", "days = from.days;", "");
        e.says("are numbered as they are told, each for itself:");
        e.edge("cocks and winds told in turn", t -> {
            CockWar x = Due.on("HW111C900010W122C100010T53C500010W133");
            t.due("hill", x.hill(), 33);
            int[] cells = {9, 1, 5};
            for (int i = 0; i < 3; i++) {
                t.due("cell of " + i, x.cock(i, 0), cells[i]);
                t.due("days of " + i, x.wind(i, 2), i + 1);
            }
        }).brokenIn("Hill.addCock", "put(cells, cocks, cell);", "put(cells, 2 - cocks, cell);")
                .brokenIn("readWind", "air.addWind(", "air.winds = ground.cocks;\n air.addWind(");
    }

    private static void tree(Edges e) {
        e.says("How high a TREE stands on a CELL (0: none).");
        e.edge("on the first and the last cell, the lowest and the highest", t -> {
            CockWar x = Due.on("HT01T93");
            t.due("tree(0)", x.tree(0), 1);
            t.due("tree(9)", x.tree(9), 3);
        }).brokenIn("isCell", "cell >= 0", "cell > 0").brokenIn("isCell", "cell < MOST_CELLS", "cell < 9");
        e.edge("none is 0, where a cock is too", t -> {
            CockWar x = Due.on("HT01T93C503010");
            for (int cell = 1; cell <= 8; cell++) t.due("tree(" + cell + ")", x.tree(cell), 0);
        }).brokenIn("tree", "at(now.trees, cell)", "Math.max(at(now.trees, cell), bit(now.takenCells(), cell))")
                .brokenIn("tree", "at(now.trees, cell)", "Math.max(at(now.trees, cell), at(now.trees, cell + 1))");
        e.says("OUTSIDE.");
        e.edge("-1 and less are no cell", t -> {
            t.refused("tree(-1)", OUTSIDE, x -> x.tree(-1));
            t.refused("tree(LOW)", OUTSIDE, x -> x.tree(LOW));
        }).brokenIn("isCell", "cell >= 0", "cell >= -1")
                .brokenIn("tree", "return", "now.days += cell < 0 ? 1 : 0;\n return");
        e.edge("10 and more are no cell", t -> {
            t.refused("tree(10)", OUTSIDE, x -> x.tree(10));
            t.refused("tree(32)", OUTSIDE, x -> x.tree(32));
            t.refused("tree(HIGH)", OUTSIDE, x -> x.tree(HIGH));
        }).brokenIn("isCell", "cell < MOST_CELLS", "cell <= MOST_CELLS");
        e.says("CELLS are 0 to 9 in a row;");
        e.edge("every cell bears a tree", t -> {
            CockWar x = Due.on(TEN_TREES);
            for (int cell = 0; cell <= 9; cell++) t.due("tree(" + cell + ")", x.tree(cell), 3);
            t.due("TREES", x.count(7), 1023);
        }).brokenIn("", "MOST_CELLS = 10", "MOST_CELLS = 9");
    }

    private static void cock(Edges e) {
        e.says("Of a COCK its CELL (what = 0), PARISH (1), how high it is (2), RUST (3), WEIGHT (4), "
                + "where it points (5: 0, 1), 1 if it is HELD (6).");
        e.edge("the least and the most of each", t -> {
            CockWar x = Due.on("HC000010C913491");
            x.hold(1);
            int[] least = {0, 0, 0, 0, 1, 0, 0}, most = {9, 1, 3, 4, 9, 1, 1};
            for (int what = 0; what <= 6; what++) {
                t.due("cock(0," + what + ")", x.cock(0, what), least[what]);
                t.due("cock(1," + what + ")", x.cock(1, what), most[what]);
            }
        }).brokenIn("cock", "at(now.cells, cock)", "at(now.cells, 0)")
                .brokenIn("cock", "bit(now.parishes, cock)", "bit(now.parishes, 0)")
                .brokenIn("cock", "at(now.heights, cock)", "at(now.heights, 0)")
                .brokenIn("cock", "at(now.rusts, cock)", "at(now.heights, cock)")
                .brokenIn("cock", "at(now.weights, cock)", "at(now.cells, cock)")
                .brokenIn("cock", "bit(now.ways, cock)", "bit(now.ways, 0)")
                .brokenIn("cock", "bit(now.held, cock)", "now.held");
        e.edge("the sixth cock's", t -> {
            CockWar x = Due.on("HC000010C100010C200010C300010C400010C913491");
            int[] want = {9, 1, 3, 4, 9, 1, 0};
            for (int what = 0; what <= 6; what++) t.due("cock(5," + what + ")", x.cock(5, what), want[what]);
        }).brokenIn("", "heights = new int[MOST_COCKS]", "heights = new int[MOST_COCKS - 1]")
                .brokenIn("", "weights = new int[MOST_COCKS]", "weights = new int[MOST_COCKS - 1]")
                .brokenIn("", "rusts = new int[MOST_COCKS]", "rusts = new int[MOST_COCKS - 1]")
                .brokenIn("", "cells = new int[MOST_COCKS]", "cells = new int[MOST_COCKS - 1]");
        e.says("UNKNOWN");
        e.edge("-1 and less are no cock", t -> {
            t.refused("cock(-1,0)", UNKNOWN, x -> x.cock(-1, 0));
            t.refused("cock(LOW,0)", UNKNOWN, x -> x.cock(LOW, 0));
        }).brokenIn("hasCock", "cock >= 0", "cock >= -1");
        e.edge("there is no cock behind the last", t -> {
            t.refused("cock(3,0)", UNKNOWN, x -> x.cock(3, 0));
            t.refused("cock(32,0)", UNKNOWN, x -> x.cock(32, 0));
            t.refused("cock(HIGH,0)", UNKNOWN, x -> x.cock(HIGH, 0));
            t.due("the sixth", Due.on(SIX_COCKS).cock(5, 0), 5);
            t.due("behind the sixth", Due.on(SIX_COCKS).cock(6, 0), UNKNOWN);
            t.due("of no cocks", Due.on("H").cock(0, 0), UNKNOWN);
        }).brokenIn("hasCock", "cock < cocks", "cock <= cocks");
        e.says("; OUTSIDE.");
        e.edge("-1 and less are nothing of a cock", t -> {
            t.refused("cock(0,-1)", OUTSIDE, x -> x.cock(0, -1));
            t.refused("cock(0,LOW)", OUTSIDE, x -> x.cock(0, LOW));
        }).brokenIn("cock", "default:", "case -1: return 0;\n default:");
        e.edge("7 and more are nothing of a cock", t -> {
            t.refused("cock(0,7)", OUTSIDE, x -> x.cock(0, 7));
            t.refused("cock(0,HIGH)", OUTSIDE, x -> x.cock(0, HIGH));
        }).brokenIn("cock", "default:", "case 7: return 0;\n default:");
        e.says("REFUSALS, of several the first that a call names");
        e.edge("UNKNOWN goes ahead of OUTSIDE", t -> {
            t.refused("cock(3,7)", UNKNOWN, x -> x.cock(3, 7));
            t.refused("cock(-1,-1)", UNKNOWN, x -> x.cock(-1, -1));
        }).brokenIn("cock", "!now.hasCock(cock)", "!now.hasCock(cock) && what >= 0 && what <= 6");
    }

    private static void wind(Edges e) {
        e.says("Of a WIND where it goes (what = 0), STRENGTH (1), DAYS (2),");
        e.edge("the least and the most of each", t -> {
            CockWar x = Due.on("HW001W159");
            int[] least = {0, 0, 1, 0}, most = {1, 5, 9, 0};
            for (int what = 0; what <= 3; what++) {
                t.due("wind(0," + what + ")", x.wind(0, what), least[what]);
                t.due("wind(1," + what + ")", x.wind(1, what), most[what]);
            }
        }).brokenIn("wind", "at(air.goals, wind)", "at(air.goals, 0)")
                .brokenIn("wind", "at(air.strengths, wind)", "at(air.strengths, 0)")
                .brokenIn("wind", "at(air.days, wind)", "at(air.days, 0)");
        e.says("which COCKS would turn by it now (3: bits; those that point otherwise then).");
        e.edge("none turns that points so already, or is held", t -> {
            CockWar x = Due.on("HC400010C510011C600010C710010W111W011");
            t.due("to 9", x.wind(0, 3), 13);
            t.due("to 0", x.wind(1, 3), 2);
            x.hold(0);
            x.hold(1);
            t.due("to 9, held", x.wind(0, 3), 12);
            t.due("to 0, held", x.wind(1, 3), 0);
        }).brokenIn("wind", "now.ways ^ ", "")
                .brokenIn("wind", "air.waysBehind(now, wind, now.held, 0)", "air.waysBehind(now, wind, 0, 0)");
        e.edge("all six turn, or there is none", t -> {
            t.due("six", Due.on(SIX_COCKS + "W111").wind(0, 3), 63);
            t.due("none", Due.on("HW111").wind(0, 3), 0);
        }).brokenIn("wind", "return now.ways ^ air.waysBehind(now, wind, now.held, 0);",
                "return 31 & (now.ways ^ air.waysBehind(now, wind, now.held, 0));")
                .brokenIn("yieldingTo", "int bits = 0;", "int bits = cocks == 0 ? 1 : 0;");
        e.edge("who is in the lee of a tree does not turn, on whatever cell it stands", t -> {
            CockWar x = Due.on("HT01T91C100010C800011C500010C600011W111W011");
            t.due("to 9", x.wind(0, 3), 4);
            t.due("to 0", x.wind(1, 3), 8);
            for (int tree = 0; tree <= 9; tree++) t.due("tree on " + tree, Due.on(Due.lee(tree, 5)).wind(0, 3), 0);
        }).brokenIn("wind", "now.held, 0)", "now.held, 1)")
                .brokenIn("wind", "now.held, 0)", "now.held, 2)").brokenIn("wind", "now.held, 0)", "now.held, 512)");
        e.edge("by each wind its own", t -> {
            for (int number = 0; number < 4; number++) {
                CockWar x = Due.on(Due.oneTo0("HC400010C510011", number));
                for (int w = 0; w < 4; w++) t.due("wind(" + w + ",3)", x.wind(w, 3), w == number ? 2 : 1);
            }
        }).brokenIn("wind", "air.waysBehind(now, wind,", "air.waysBehind(now, 0,");
        e.edge("it only would", t -> {
            t.asksOnly("wind(0,3)", x -> x.wind(0, 3));
            t.asksOnly("wind(1,3)", x -> x.wind(1, 3));
        }).brokenIn("wind", "return now.ways ^ ", "return now.ways ^ (now.days++ * 0) ^ ");
        e.says("UNKNOWN");
        e.edge("-1 and less are no wind", t -> {
            t.refused("wind(-1,0)", UNKNOWN, x -> x.wind(-1, 0));
            t.refused("wind(LOW,0)", UNKNOWN, x -> x.wind(LOW, 0));
        }).brokenIn("hasWind", "wind >= 0", "wind >= -1");
        e.edge("there is no wind behind the last", t -> {
            t.refused("wind(2,0)", UNKNOWN, x -> x.wind(2, 0));
            t.refused("wind(HIGH,0)", UNKNOWN, x -> x.wind(HIGH, 0));
            t.due("the fourth", Due.on(FOUR_WINDS).wind(3, 0), 1);
            t.due("behind the fourth", Due.on(FOUR_WINDS).wind(4, 0), UNKNOWN);
            t.due("of no winds", Due.on("H").wind(0, 0), UNKNOWN);
        }).brokenIn("hasWind", "wind < winds", "wind <= winds");
        e.says("; OUTSIDE.");
        e.edge("-1 and less are nothing of a wind", t -> {
            t.refused("wind(0,-1)", OUTSIDE, x -> x.wind(0, -1));
            t.refused("wind(0,LOW)", OUTSIDE, x -> x.wind(0, LOW));
        }).brokenIn("wind", "default:", "case -1: return 0;\n default:");
        e.edge("4 and more are nothing of a wind", t -> {
            t.refused("wind(0,4)", OUTSIDE, x -> x.wind(0, 4));
            t.refused("wind(0,HIGH)", OUTSIDE, x -> x.wind(0, HIGH));
        }).brokenIn("wind", "default:", "case 4: return 0;\n default:");
        e.says("REFUSALS, of several the first that a call names");
        e.edge("UNKNOWN goes ahead of OUTSIDE", t -> {
            t.refused("wind(2,4)", UNKNOWN, x -> x.wind(2, 4));
            t.refused("wind(-1,-1)", UNKNOWN, x -> x.wind(-1, -1));
        }).brokenIn("wind", "!air.hasWind(wind)", "!air.hasWind(wind) && what >= 0 && what <= 3");
    }
}
