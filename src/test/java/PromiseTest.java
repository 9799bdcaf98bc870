/** Each promise of DOC.md by its number, on small hills whose answers were worked out by hand. */
public final class PromiseTest {
    private static final int UNKNOWN = -1, OUTSIDE = -2, STATE = -3, FULL = -4, NONE = -9;
    private static final int LOW = Integer.MIN_VALUE, HIGH = Integer.MAX_VALUE;

    /** WIND 0 goes towards 9, WIND 1 towards 0; both cocks turn by both. */
    private static final String TWO = "HC400050C510030W111W011";
    /** Two cocks of PARISH 0 in the lee of trees, one of PARISH 1 that is all rust. */
    private static final String LEE = "HT01T21C100020C513430C300020W113";
    /** All point towards 0; WIND 0 turns all four, WIND 1 none. */
    private static final String FOUR = "HC400010C510010C600110C703010W123W015";

    private static int promise;
    private static int checks = 0;
    private static int wrong = 0;

    private static void due(String call, long got, long want) {
        checks++;
        if (got != want) {
            wrong++;
            System.out.println("promise " + promise + ": " + call + " answered " + got + ", due is " + want);
        }
    }

    private static void tell(CockWar x, String text) {
        x.wipe();
        for (int i = 0; i < text.length(); i++) x.write(text.charAt(i));
    }

    private static CockWar on(String text) {
        CockWar x = new CockWar();
        tell(x, text);
        if (x.hill() < 0) due("hill() of " + text, x.fault(), NONE);
        return x;
    }

    public static void main(String[] args) {
        for (promise = 1; promise <= 33; promise++) {
            int before = checks;
            if (promise <= 8) theHill();
            else if (promise <= 15) acts();
            else if (promise <= 22) underWinds();
            else others();
            if (checks == before) due("checks", 0, 1);
        }
        System.out.println(checks + " checks, " + wrong + " wrong");
        if (wrong != 0) System.exit(1);
    }

    private static void theHill() {
        switch (promise) {
            case 1: newObject(); break;
            case 2: write(); break;
            case 3: wipe(); break;
            case 4: fault(); break;
            case 5: hill(); break;
            case 6: tree(); break;
            case 7: cock(); break;
            default: wind();
        }
    }

    private static void acts() {
        switch (promise) {
            case 9: blow(); break;
            case 10: fell(); break;
            case 11: move(); break;
            case 12: grease(); break;
            case 13: capture(); break;
            case 14: hold(); break;
            default: undo();
        }
    }

    private static void underWinds() {
        switch (promise) {
            case 16: under(); break;
            case 17: year(); break;
            case 18: placing(); break;
            case 19: trees(); break;
            case 20: decides(); break;
            case 21: power(); break;
            default: judge();
        }
    }

    private static void others() {
        switch (promise) {
            case 23: see(); break;
            case 24: unsee(); break;
            case 25: strings(); break;
            case 26: winds(); break;
            case 27: rests(); break;
            case 28: frost(); break;
            case 29: seed(); break;
            case 30: years(); break;
            case 31: keep(); break;
            case 32: again(); break;
            default: count();
        }
    }

    private static void newObject() {
        CockWar x = new CockWar();
        for (int what = 0; what <= 10; what++) due("count(" + what + ")", x.count(what), 0);
        for (int cell = 0; cell <= 9; cell++) due("tree(" + cell + ")", x.tree(cell), 0);
        due("cock(0,0)", x.cock(0, 0), UNKNOWN);
        due("wind(0,0)", x.wind(0, 0), UNKNOWN);
        due("seed", x.seed(0), 0);
        due("undo", x.undo(), STATE);
        due("again(0)", x.again(0), STATE);
        due("again(1)", x.again(1), STATE);
        due("fault", x.fault(), 0);
        due("hill", x.hill(), STATE);
        due("winds", x.winds(), 0);
        due("UNKNOWN", CockWar.UNKNOWN, -1);
        due("OUTSIDE", CockWar.OUTSIDE, -2);
        due("STATE", CockWar.STATE, -3);
        due("FULL", CockWar.FULL, -4);
        due("NONE", CockWar.NONE, -9);
    }

    private static void write() {
        CockWar x = new CockWar();
        due("write(-1)", x.write(-1), OUTSIDE);
        due("write(256)", x.write(256), OUTSIDE);
        due("write(LOW)", x.write(LOW), OUTSIDE);
        due("write(HIGH)", x.write(HIGH), OUTSIDE);
        due("nothing written", x.count(0), 0);
        due("write(0)", x.write(0), 1);
        due("write(255)", x.write(255), 2);
        for (int i = 3; i <= 64; i++) due("write to " + i, x.write('H'), i);
        due("write to 65", x.write('H'), FULL);
        due("write(256) when full", x.write(256), OUTSIDE);
        due("still 64", x.count(0), 64);
    }

    private static void wipe() {
        CockWar x = on(TWO);
        due("wipe", x.wipe(), 23);
        due("wipe again", x.wipe(), 0);
        due("letters", x.count(0), 0);
        due("the hill stays", x.count(1), 2);
        due("write behind it", x.write('H'), 1);
        due("nothing of the old text", x.fault(), NONE);
    }

    private static void faultOf(String text, int want) {
        CockWar x = new CockWar();
        tell(x, text);
        due("fault of " + text, x.fault(), want);
        due("hill of " + text, x.hill() == STATE ? 1 : 0, want == NONE ? 0 : 1);
    }

    private static void fault() {
        faultOf("", 0);
        faultOf("h", 0);
        faultOf("T01", 0);
        faultOf("H", NONE);
        faultOf("HH", 1);
        faultOf("Ht01", 1);
        faultOf("H\0", 1);
        faultOf("H" + (char) 255, 1);
        faultOfTrees();
        faultOfCocks();
        faultOfWinds();
        faultOf(LEE, NONE);
        faultOf("HXT9", 1);
        faultOf("HT01W159C913491T91", NONE);
        String all = "H" + cocks(6) + "W111W111W111W111T01";
        faultOf(all, NONE);
        faultOf(all + "T", 63);
        faultOf(all + "T1", 64);
    }

    private static void faultOfTrees() {
        faultOf("HT", 2);
        faultOf("HT/", 2);
        faultOf("HT:", 2);
        faultOf("HT0", 3);
        faultOf("HT00", 3);
        faultOf("HT04", 3);
        faultOf("HT0/", 3);
        faultOf("HT03", NONE);
        faultOf("HT91", NONE);
        faultOf("HT01T01", 5);
        faultOf("HT01T1", 6);
        StringBuilder trees = new StringBuilder("H");
        for (char cell = '0'; cell <= '9'; cell++) trees.append('T').append(cell).append('3');
        faultOf(trees.toString(), NONE);
        faultOf(trees + "T", 31);
        faultOf(trees + "T01", 31);
        faultOf(trees + "C", 32);
        faultOf(trees + "C", 32);
    }

    private static String cocks(int number) {
        StringBuilder s = new StringBuilder();
        for (int c = 0; c < number; c++) s.append('C').append((char) ('0' + c)).append("00010");
        return s.toString();
    }

    private static void faultOfCocks() {
        String good = "HC913491";
        faultOf(good, NONE);
        for (int length = 2; length < good.length(); length++) faultOf(good.substring(0, length), length);
        faultOf("HC:", 2);
        faultOf("HC02", 3);
        faultOf("HC004", 4);
        faultOf("HC0005", 5);
        faultOf("HC00000", 6);
        faultOf("HC0000:", 6);
        faultOf("HC000012", 7);
        faultOf("HC000010", NONE);
        faultOf("HC000010C0", 9);
        faultOf("HT01C000010", NONE);
        faultOf("HC000010T01", NONE);
        faultOf("H" + cocks(6), NONE);
        faultOf("H" + cocks(6) + "C", 43);
        faultOf("H" + cocks(6) + "T01W", 47);
    }

    private static void faultOfWinds() {
        faultOf("HW", 2);
        faultOf("HW2", 2);
        faultOf("HW1", 3);
        faultOf("HW16", 3);
        faultOf("HW15", 4);
        faultOf("HW150", 4);
        faultOf("HW159", NONE);
        faultOf("HW001", NONE);
        faultOf("HW159W159W159W159", NONE);
        faultOf("HW159W159W159W159W", 17);
        faultOf("HW159W159W159W159T", 18);
    }

    private static void hill() {
        CockWar x = on(LEE);
        due("hill", x.hill(), 31);
        due("the text stays", x.count(0), LEE.length());
        x.see(2, 1);
        x.seed(77);
        x.keep(0);
        x.keep(1);
        x.hold(0);
        x.blow(0);
        x.hold(1);
        x.fell(0);
        due("a fault", x.write('T') + x.hill(), LEE.length() + 1 + STATE);
        due("acts stay", x.count(9), 4);
        due("the brook stays", x.count(3), 1);
        due("what was kept stays", x.again(1), 0);
        x.blow(0);
        tell(x, LEE);
        due("hill anew", x.hill(), 31);
        due("acts are gone", x.undo(), STATE);
        due("slot 0 is gone", x.again(0), STATE);
        due("slot 1 is gone", x.again(1), STATE);
        due("brook", x.count(3), 0);
        due("days", x.count(4), 0);
        due("held", x.count(8), 0);
        due("trees", x.count(7), 5);
        due("seen stays", x.count(10), 1);
        due("the seed stays", x.seed(0), 77);
        tell(x, "H");
        due("an empty hill", x.hill(), 0);
        due("its trees", x.count(7), 0);
        tell(x, "HC410011");
        x.hill();
        tell(x, "HC400010");
        x.hill();
        due("nothing of the hill before, parish", x.cock(0, 1), 0);
        due("nothing of the hill before, points", x.cock(0, 5), 0);
        tell(x, "H" + cocks(6) + "W111W111W111W111");
        due("a full hill", x.hill(), 64);
    }

    private static void tree() {
        CockWar x = on("HT01T93T42");
        due("tree(0)", x.tree(0), 1);
        due("tree(1)", x.tree(1), 0);
        due("tree(4)", x.tree(4), 2);
        due("tree(9)", x.tree(9), 3);
        due("tree(10)", x.tree(10), OUTSIDE);
        due("tree(-1)", x.tree(-1), OUTSIDE);
        due("tree(LOW)", x.tree(LOW), OUTSIDE);
        due("tree(HIGH)", x.tree(HIGH), OUTSIDE);
    }

    private static void cock() {
        CockWar x = on("HC913491C002010");
        int[] first = {9, 1, 3, 4, 9, 1, 0};
        int[] second = {0, 0, 2, 0, 1, 0, 1};
        x.hold(1);
        for (int what = 0; what <= 6; what++) {
            due("cock(0," + what + ")", x.cock(0, what), first[what]);
            due("cock(1," + what + ")", x.cock(1, what), second[what]);
        }
        due("cock(0,7)", x.cock(0, 7), OUTSIDE);
        due("cock(0,-1)", x.cock(0, -1), OUTSIDE);
        due("cock(2,0)", x.cock(2, 0), UNKNOWN);
        due("cock(-1,0)", x.cock(-1, 0), UNKNOWN);
        due("cock(2,7)", x.cock(2, 7), UNKNOWN);
        due("cock(HIGH,LOW)", x.cock(HIGH, LOW), UNKNOWN);
    }

    private static int turnsBy(String text) {
        return on(text).wind(0, 3);
    }

    private static void wind() {
        CockWar x = on(FOUR);
        int[] first = {1, 2, 3, 15};
        int[] second = {0, 1, 5, 0};
        for (int what = 0; what <= 3; what++) {
            due("wind(0," + what + ")", x.wind(0, what), first[what]);
            due("wind(1," + what + ")", x.wind(1, what), second[what]);
        }
        x.hold(1);
        due("one held", x.wind(0, 3), 13);
        due("nothing turned", x.count(5), 0);
        due("tree on 0", turnsBy("HT01C100010W111"), 0);
        due("rust as strong", turnsBy("HC400210W124"), 0);
        due("rust less strong", turnsBy("HC400210W134"), 1);
        due("tree as high", turnsBy("HT32C402010W111"), 1);
        due("tree higher", turnsBy("HT33C402010W111"), 0);
        due("tree behind it", turnsBy("HT53C402010W111"), 1);
        due("tree on its own cell", turnsBy("HT43C402010W111"), 1);
        due("tree two cells off", turnsBy("HT23C402010W111"), 1);
        due("to 0, tree higher", turnsBy("HT53C402011W011"), 0);
        due("to 0, tree behind it", turnsBy("HT33C402011W011"), 1);
        due("at the end, to 9", turnsBy("HC000010W111"), 1);
        due("at the end, to 0", turnsBy("HC900011W011"), 1);
        due("wind(0,4)", x.wind(0, 4), OUTSIDE);
        due("wind(0,-1)", x.wind(0, -1), OUTSIDE);
        due("wind(2,0)", x.wind(2, 0), UNKNOWN);
        due("wind(-1,4)", x.wind(-1, 4), UNKNOWN);
        due("wind(HIGH,0)", x.wind(HIGH, 0), UNKNOWN);
    }

    private static void blow() {
        CockWar x = on(TWO);
        due("to 0", x.blow(1), 1);
        due("day", x.count(4), 1);
        due("to 9", x.blow(0), 0);
        due("cock 0", x.cock(0, 5), 1);
        due("cock 1", x.cock(1, 5), 1);
        due("weights 0", x.count(5), 5);
        due("weights 1", x.count(6), 0);
        x.hold(0);
        due("one held", x.blow(1), 0);
        due("it stayed", x.cock(0, 5), 1);
        due("held no more", x.count(8), 0);
        due("days", x.count(4), 3);
        due("acts", x.count(9), 4);
        due("blow(2)", x.blow(2), UNKNOWN);
        due("blow(-1)", x.blow(-1), UNKNOWN);
        due("blow(LOW)", x.blow(LOW), UNKNOWN);
        due("no act", x.count(9), 4);
        CockWar even = on("HC400030C613430W111W001");
        due("3 and 3 stays 0", even.blow(0), 0);
        even.capture(0);
        due("0 and 3", even.blow(0), 1);
        even.capture(0);
        due("3 and 3 stays 1", even.blow(0), 1);
        due("strength 0 turns none", even.blow(1), 1);
        due("still towards 9", even.cock(0, 5), 1);
    }

    private static void fell() {
        CockWar x = on("HT01T93");
        due("fell(9)", x.fell(9), 3);
        due("gone", x.tree(9), 0);
        due("fell(9) again", x.fell(9), STATE);
        due("fell(5)", x.fell(5), STATE);
        due("fell(10)", x.fell(10), OUTSIDE);
        due("fell(-1)", x.fell(-1), OUTSIDE);
        due("fell(HIGH)", x.fell(HIGH), OUTSIDE);
        due("one act", x.count(9), 1);
        due("fell(0)", x.fell(0), 1);
        due("none left", x.count(7), 0);
        CockWar lee = on("HT33C402010W111");
        lee.fell(3);
        due("turns then", lee.wind(0, 3), 1);
    }

    private static void move() {
        CockWar x = on("HT33C400010C500010W111");
        due("move(0,9)", x.move(0, 9), 4);
        due("move(0,0)", x.move(0, 0), 9);
        due("its cell", x.cock(0, 0), 0);
        due("upon a tree", x.move(0, 3), 0);
        due("to the other", x.move(0, 5), STATE);
        due("to itself", x.move(0, 3), STATE);
        due("where it was", x.move(1, 4), 5);
        due("in the lee", x.wind(0, 3), 1);
        due("move(0,10)", x.move(0, 10), OUTSIDE);
        due("move(0,-1)", x.move(0, -1), OUTSIDE);
        due("move(2,0)", x.move(2, 0), UNKNOWN);
        due("move(2,10)", x.move(2, 10), UNKNOWN);
        due("move(-1,0)", x.move(-1, 0), UNKNOWN);
        due("move(LOW,HIGH)", x.move(LOW, HIGH), UNKNOWN);
        due("acts", x.count(9), 4);
    }

    private static void grease() {
        CockWar x = on("HC400410C500010W111");
        due("rusty", x.wind(0, 3), 2);
        due("grease(0)", x.grease(0), 4);
        due("rust", x.cock(0, 3), 0);
        due("turns", x.wind(0, 3), 3);
        due("grease(0) again", x.grease(0), STATE);
        due("grease(1)", x.grease(1), STATE);
        due("grease(2)", x.grease(2), UNKNOWN);
        due("grease(-1)", x.grease(-1), UNKNOWN);
        due("grease(HIGH)", x.grease(HIGH), UNKNOWN);
        due("acts", x.count(9), 1);
    }

    private static void capture() {
        CockWar x = on("HC400051C510031");
        due("weights 0", x.count(5), 5);
        due("capture(0)", x.capture(0), 1);
        due("its parish", x.cock(0, 1), 1);
        due("weights 0 then", x.count(5), 0);
        due("the brook is whose it was", x.count(3), 0);
        due("capture(1)", x.capture(1), 0);
        due("weights 0 of the other", x.count(5), 3);
        due("capture(0) back", x.capture(0), 0);
        due("capture(2)", x.capture(2), UNKNOWN);
        due("capture(-1)", x.capture(-1), UNKNOWN);
        due("capture(LOW)", x.capture(LOW), UNKNOWN);
        due("acts", x.count(9), 3);
    }

    private static void hold() {
        CockWar x = on(TWO);
        due("hold(1)", x.hold(1), 1);
        due("held", x.count(8), 2);
        due("hold(0)", x.hold(0), 1);
        due("both held", x.count(8), 3);
        due("hold(1) again", x.hold(1), 0);
        due("one held", x.count(8), 1);
        due("turns", x.wind(0, 3), 2);
        due("hold(2)", x.hold(2), UNKNOWN);
        due("hold(-1)", x.hold(-1), UNKNOWN);
        due("hold(HIGH)", x.hold(HIGH), UNKNOWN);
        due("acts", x.count(9), 3);
    }

    private static void undo() {
        CockWar x = on("HT01C400350C510030W151W041");
        x.hold(1);
        x.blow(1);
        x.fell(0);
        x.move(0, 7);
        x.grease(0);
        x.capture(1);
        x.hold(0);
        due("hold", x.undo(), 6);
        due("held", x.count(8), 0);
        due("capture", x.undo(), 5);
        due("parish", x.cock(1, 1), 1);
        due("grease", x.undo(), 4);
        due("rust", x.cock(0, 3), 3);
        due("move", x.undo(), 3);
        due("cell", x.cock(0, 0), 4);
        due("fell", x.undo(), 2);
        due("tree", x.tree(0), 1);
        due("brook behind the wind", x.count(3), 1);
        due("blow", x.undo(), 1);
        due("brook", x.count(3), 0);
        due("days", x.count(4), 0);
        due("held again", x.count(8), 2);
        due("hold", x.undo(), 0);
        due("held no more", x.count(8), 0);
        due("no more", x.undo(), STATE);
        x.blow(0);
        due("a wind's undoing", x.undo(), 0);
        due("points as before", x.cock(0, 5), 0);
        x.capture(0);
        for (int i = 1; i <= 14; i++) x.blow(1);
        due("14 at most", x.count(9), 14);
        for (int left = 13; left >= 0; left--) due("undo to " + left, x.undo(), left);
        due("the first is forgotten", x.undo(), STATE);
        due("so it stays", x.cock(0, 1), 1);
        due("no day", x.count(4), 0);
    }

    private static void under() {
        CockWar x = on(TWO);
        due("under(0)", x.under(0), 0);
        due("under(1)", x.under(1), 1);
        due("no day", x.count(4), 0);
        x.blow(0);
        x.hold(0);
        due("one held", x.under(1), 0);
        due("held still", x.count(8), 1);
        due("no act", x.count(9), 2);
        due("trees on 0 and 2", on(LEE).under(0), 1);
        due("tree on 0", on("HT01C100020C913410W111").under(0), 1);
        due("under(2)", x.under(2), UNKNOWN);
        due("under(-1)", x.under(-1), UNKNOWN);
        due("under(HIGH)", x.under(HIGH), UNKNOWN);
    }

    private static void year() {
        CockWar x = on("HC400050C510030W112W013W014");
        due("year(0)", x.year(0), 2);
        due("year(1)", x.year(1), 7);
        x.blow(0);
        x.hold(0);
        due("one held", x.year(0), 9);
        due("none for 1", x.year(1), 0);
        due("tree on 0", on("HT01C100020C913410W117").year(1), 7);
        due("year(2)", x.year(2), OUTSIDE);
        due("year(-1)", x.year(-1), OUTSIDE);
        due("year(LOW)", x.year(LOW), OUTSIDE);
        due("no winds", on("HC400050").year(0), 0);
    }

    private static void placingOf(String text, int parish, int days, int cock, int cell, int tree) {
        CockWar x = on(text);
        String call = "placing of " + parish + " on " + text + ", ";
        due(call + 0, x.placing(parish, 0), days);
        due(call + 1, x.placing(parish, 1), cock);
        due(call + 2, x.placing(parish, 2), cell);
        due(call + 3, x.placing(parish, 3), tree);
        due(call + "no act", x.count(9), 0);
    }

    private static void placing() {
        // Both cocks must come out of the lee: one moves to 0, before which nothing stands, one tree goes.
        placingOf(LEE, 0, 3, 0, 0, 2);
        placingOf(LEE, 1, 3, NONE, NONE, NONE);
        // A tree alone does it: no move, though a move would do it too.
        placingOf("HT01C100020W113C513410", 0, 3, NONE, NONE, 0);
        // Two trees each do it: the lesser one.
        placingOf("HT01T21C100020C300020W113C513410", 0, 3, NONE, NONE, 0);
        // Its own cock goes into the lee of the other end, the least free cell behind a tree.
        placingOf("HT31T51C913020C810020W113", 1, 3, 1, 4, NONE);
        // The other parish's cocks don't move.
        placingOf("HT31T51C903020C800020W113", 1, 0, NONE, NONE, NONE);
        placingOf("H", 0, 0, NONE, NONE, NONE);
        CockWar x = on(LEE);
        due("placing(2,0)", x.placing(2, 0), OUTSIDE);
        due("placing(-1,0)", x.placing(-1, 0), OUTSIDE);
        due("placing(0,4)", x.placing(0, 4), OUTSIDE);
        due("placing(0,-1)", x.placing(0, -1), OUTSIDE);
        due("placing(HIGH,LOW)", x.placing(HIGH, LOW), OUTSIDE);
    }

    private static void trees() {
        CockWar x = on(LEE);
        due("both trees", x.trees(0, 0), 5);
        due("its own now", x.trees(1, 0), 0);
        due("all trees stand", x.count(7), 5);
        due("trees(2,0)", x.trees(2, 0), OUTSIDE);
        due("trees(-1,9)", x.trees(-1, 9), OUTSIDE);
        due("trees(0,1)", x.trees(0, 1), UNKNOWN);
        due("trees(1,-1)", x.trees(1, -1), UNKNOWN);
        // One of weight 4 or two of weight 2 and 2: the one is fewer, though its number is more.
        due("fewest", on("HT01T21T41C100020C300020C500040C913430W111").trees(0, 0), 16);
        due("least", on("HT01T21C100020C300020C913410W111").trees(0, 0), 1);
        due("none", on("HT01C100020C913430W111").trees(0, 0), NONE);
        due("the tree on 9", on("HT92C810011W011").trees(1, 0), 512);
        x.blow(0);
        x.hold(0);
        due("one held", x.trees(0, 0), NONE);
    }

    private static void decides() {
        CockWar x = on(LEE);
        due("even is 0's", x.decides(0), 2);
        x.blow(0);
        due("even is 1's", x.decides(0), 0);
        due("decides(1)", x.decides(1), UNKNOWN);
        due("decides(-1)", x.decides(-1), UNKNOWN);
        due("decides(HIGH)", x.decides(HIGH), UNKNOWN);
        CockWar y = on(TWO);
        due("to 0", y.decides(1), 3);
        due("to 9", y.decides(0), 0);
        y.hold(0);
        due("one held, to 9", y.decides(0), 2);
        due("nothing changed", y.count(8), 1);
    }

    private static void power() {
        CockWar x = on(LEE);
        due("power(0)", x.power(0), 1);
        due("power(1)", x.power(1), 3);
        due("power(2)", x.power(2), 1);
        x.blow(0);
        due("even is 1's, power(0)", x.power(0), 2);
        due("even is 1's, power(1)", x.power(1), 2);
        due("power(3)", x.power(3), UNKNOWN);
        due("power(-1)", x.power(-1), UNKNOWN);
        due("power(LOW)", x.power(LOW), UNKNOWN);
        due("alone, even is its own", on("HC400050").power(0), 0);
        due("alone, even is the other's", on("HC410050").power(0), 1);
    }

    private static void judge() {
        CockWar x = on(TWO);
        due("judge(1,0)", x.judge(1, 0), NONE);
        due("judge(1,1)", x.judge(1, 1), 0);
        due("judge(2,1)", x.judge(2, 1), 1);
        due("judge(2,10)", x.judge(2, 10), 0);
        due("judge(6,0)", x.judge(6, 0), NONE);
        due("judge(6,100)", x.judge(6, 100), 3);
        due("judge(6,900000)", x.judge(6, 900000), 0);
        due("judge(6,2)", x.judge(6, 2), 5);
        due("judge(0,0)", x.judge(0, 0), OUTSIDE);
        due("judge(7,0)", x.judge(7, 0), OUTSIDE);
        due("judge(HIGH,0)", x.judge(HIGH, 0), OUTSIDE);
        due("judge(1,10)", x.judge(1, 10), OUTSIDE);
        due("judge(6,1000000)", x.judge(6, 1000000), OUTSIDE);
        due("judge(6,999999)", x.judge(6, 999999), 0);
        due("judge(1,-1)", x.judge(1, -1), OUTSIDE);
        due("judge(6,LOW)", x.judge(6, LOW), OUTSIDE);
        due("no day", x.count(4), 0);
        x.blow(0);
        x.hold(0);
        x.hold(1);
        due("held for the first alone", x.judge(2, 11), 1);
        due("held still", x.count(8), 3);
    }

    private static void see() {
        CockWar x = on(TWO);
        due("see(2,0)", x.see(2, 0), UNKNOWN);
        due("see(-1,2)", x.see(-1, 2), UNKNOWN);
        due("see(0,2)", x.see(0, 2), OUTSIDE);
        due("see(0,-1)", x.see(0, -1), OUTSIDE);
        due("none seen", x.count(10), 0);
        for (int i = 1; i <= 6; i++) due("see " + i, x.see(i % 2, 1), i);
        due("a seventh", x.see(0, 1), FULL);
        due("a seventh outside", x.see(0, 2), OUTSIDE);
        due("a seventh unknown", x.see(9, 2), UNKNOWN);
        due("six seen", x.count(10), 6);
        due("no act", x.count(9), 0);
    }

    private static void unsee() {
        CockWar x = on(TWO);
        due("none", x.unsee(), 0);
        x.see(0, 0);
        x.see(1, 1);
        due("two", x.unsee(), 2);
        due("none are left", x.count(10), 0);
        due("nothing is looked at", x.winds(), 3);
        due("see anew", x.see(1, 0), 1);
        due("the one alone", x.winds(), 2);
    }

    private static void stringsAre(CockWar x, String when, int sets, int inAll, int inNone) {
        due(when + ", sets", x.strings(0, 0), sets);
        due(when + ", in all", x.strings(0, 1), inAll);
        due(when + ", in none", x.strings(0, 2), inNone);
    }

    private static void strings() {
        CockWar x = on(FOUR);
        stringsAre(x, "nothing seen", 16, 0, 0);
        x.see(0, 0);
        stringsAre(x, "cock 0 stayed", 8, 1, 0);
        x.see(1, 1);
        stringsAre(x, "cock 1 turned", 4, 1, 2);
        x.hold(1);
        stringsAre(x, "strings of now", 4, 1, 2);
        due("held still", x.count(8), 2);
        due("by no strings", x.strings(1, 0), 0);
        due("strings(2,0)", x.strings(2, 0), UNKNOWN);
        due("strings(-1,9)", x.strings(-1, 9), UNKNOWN);
        due("strings(0,3)", x.strings(0, 3), OUTSIDE);
        due("strings(0,-1)", x.strings(0, -1), OUTSIDE);
        x.see(0, 1);
        stringsAre(x, "both ways", 0, NONE, NONE);
        tell(x, "HW111");
        x.hill();
        stringsAre(x, "without cocks", 1, 0, 0);
        due("seen still", x.count(10), 3);
        tell(x, "HC400010W111");
        x.hill();
        x.unsee();
        x.see(0, 0);
        stringsAre(x, "one cock", 1, 1, 0);
        x.unsee();
        x.see(0, 1);
        stringsAre(x, "one cock that turned", 1, 0, 1);
        tell(x, "HT01C100010W111");
        x.hill();
        stringsAre(x, "tree on 0", 0, NONE, NONE);
    }

    private static void winds() {
        CockWar x = on(FOUR);
        due("nothing seen", x.winds(), 3);
        x.see(3, 1);
        due("turned", x.winds(), 1);
        x.hold(3);
        due("nobody is held", x.winds(), 1);
        x.see(2, 0);
        due("none", x.winds(), 0);
        tell(x, TWO);
        x.hill();
        due("cocks that are no more", x.winds(), 3);
        tell(x, FOUR);
        x.hill();
        due("and are again", x.winds(), 0);
        due("no winds", on("HC400010").winds(), 0);
        CockWar lee = on("HT01C100010W111");
        lee.see(0, 0);
        due("tree on 0", lee.winds(), 1);
        CockWar held = on("HC000010W111");
        held.see(0, 1);
        due("not held, cock 0", held.winds(), 1);
    }

    private static void rests() {
        CockWar x = on(TWO);
        due("to 9", x.rests(0, 0), 2);
        due("to 9, first", x.rests(0, 1), 0);
        x.blow(0);
        due("to 0", x.rests(1, 0), 2);
        due("to 0, first", x.rests(1, 1), 10);
        x.hold(0);
        x.hold(1);
        due("strings of now", x.rests(1, 0), 2);
        due("strings of now, first", x.rests(1, 1), 10);
        due("held still", x.count(8), 3);
        due("rests(2,0)", x.rests(2, 0), UNKNOWN);
        due("rests(-1,2)", x.rests(-1, 2), UNKNOWN);
        due("rests(0,2)", x.rests(0, 2), OUTSIDE);
        due("rests(0,-1)", x.rests(0, -1), OUTSIDE);
        // PARISH 1 has the brook if it holds its cock 1, and must; PARISH 0's choice does nothing.
        CockWar y = on("HC403410C513030W111");
        due("of PARISH 1", y.rests(0, 0), 2);
        due("first of PARISH 1", y.rests(0, 1), 2);
        // In the lee of the tree on 0 PARISH 0 loses whatever is held: all four pairs.
        CockWar lee = on("HT01C100020C913410W111");
        due("tree on 0", lee.rests(0, 0), 4);
        due("tree on 0, first", lee.rests(0, 1), 0);
    }

    private static void fraction(CockWar x, int wind, int tenths, int above, int below) {
        String call = "frost(" + wind + "," + tenths + ")";
        due(call + " above", x.frost(wind, tenths, true), above);
        due(call + " below", x.frost(wind, tenths, false), below);
    }

    private static void frost() {
        CockWar x = on(TWO);
        x.blow(0);
        fraction(x, 1, 0, 0, 1);
        fraction(x, 1, 3, 51, 100);
        fraction(x, 1, 5, 3, 4);
        fraction(x, 1, 10, 1, 1);
        fraction(x, 0, 3, 1, 1);
        x.hold(0);
        fraction(x, 1, 0, 1, 1);
        due("held still", x.count(8), 1);
        for (boolean upper : new boolean[] {true, false}) {
            due("frost(2,0)", x.frost(2, 0, upper), UNKNOWN);
            due("frost(-1,11)", x.frost(-1, 11, upper), UNKNOWN);
            due("frost(0,11)", x.frost(0, 11, upper), OUTSIDE);
            due("frost(0,-1)", x.frost(0, -1, upper), OUTSIDE);
        }
        fraction(on("HW111"), 0, 4, 1, 1);
        fraction(on("HT01C100020C913410W111"), 0, 4, 0, 1);
        // All six of PARISH 1 must turn away, or else it has the brook: 0.9 six times.
        fraction(on("HC010010C110010C210010C310010C410010C510010W111"), 0, 1, 531441, 1000000);
    }

    private static void seed() {
        CockWar x = new CockWar();
        due("at first", x.seed(Long.MIN_VALUE), 0);
        due("the least", x.seed(Long.MAX_VALUE), Long.MIN_VALUE);
        due("the most", x.seed(-1), Long.MAX_VALUE);
        due("as it was", x.seed(0), -1);
    }

    private static void years() {
        CockWar x = on(TWO);
        due("years(0)", x.years(0), OUTSIDE);
        due("years(31)", x.years(31), OUTSIDE);
        due("years(LOW)", x.years(LOW), OUTSIDE);
        due("nothing drawn", x.seed(0), 0);
        drawnByHand(x);
        CockWar calm = on("HC400050");
        calm.seed(9);
        due("no winds", calm.years(30), 0);
        due("nothing drawn without winds", calm.seed(0), 9);
        due("no winds, years(31)", calm.years(31), OUTSIDE);
        CockWar one = on("HC400051W004");
        due("all of 30", one.years(30), 30);
    }

    private static void drawnByHand(CockWar x) {
        long v = 0;
        int want = 0;
        for (int day = 0; day < 30; day++) {
            v = v * 6364136223846793005L + 1442695040888963407L;
            // Of two days the first is WIND 0's, behind which the brook is PARISH 0's.
            want += (v >>> 33) % 2 == 0 ? 1 : 0;
        }
        due("30 days", x.years(30), want);
        due("the seed goes on", x.seed(0), v);
        due("one day", x.years(1), (1442695040888963407L >>> 33) % 2 == 0 ? 1 : 0);
        due("one draw", x.seed(0), 1442695040888963407L);
        due("nothing blew", x.count(4), 0);
        due("no act", x.count(9), 0);
        x.blow(0);
        x.hold(0);
        x.seed(0);
        // Held, the heavier one of PARISH 0 still points towards 9 behind either wind, on the first day.
        due("held for the first day", x.years(1), 1);
        due("held still", x.count(8), 1);
    }

    private static void keep() {
        CockWar x = on(TWO);
        due("keep(0)", x.keep(0), 0);
        x.blow(1);
        x.blow(1);
        due("keep(1)", x.keep(1), 2);
        due("the row stays", x.count(9), 2);
        due("keep(2)", x.keep(2), UNKNOWN);
        due("keep(-1)", x.keep(-1), UNKNOWN);
        due("keep(HIGH)", x.keep(HIGH), UNKNOWN);
        due("kept in 0", x.again(0), 0);
        due("kept in 1", x.again(1), 2);
        x.blow(0);
        due("kept anew", x.keep(1), 3);
        due("what was kept anew", x.again(1), 3);
        due("on a new object", new CockWar().keep(1), 0);
    }

    private static void again() {
        CockWar x = on("HT01T92C400350C510030W151W041");
        x.blow(1);
        x.hold(1);
        x.keep(1);
        x.fell(9);
        x.move(0, 7);
        x.grease(0);
        x.capture(1);
        x.blow(0);
        x.see(0, 1);
        x.seed(8);
        due("again(0)", x.again(0), STATE);
        due("nothing changed", x.count(9), 7);
        due("again(1)", x.again(1), 1);
        due("the row is empty", x.count(9), 0);
        due("undo", x.undo(), STATE);
        due("trees", x.count(7), 513);
        due("cell", x.cock(0, 0), 4);
        due("rust", x.cock(0, 3), 3);
        due("parish", x.cock(1, 1), 1);
        due("points", x.cock(0, 5), 0);
        due("brook", x.count(3), 1);
        due("days", x.count(4), 1);
        due("held", x.count(8), 2);
        due("seen stays", x.count(10), 1);
        due("the seed stays", x.seed(0), 8);
        x.hold(0);
        due("once more", x.again(1), 1);
        CockWar y = on(TWO);
        y.keep(0);
        y.hold(0);
        due("on day 0", y.again(0), 0);
        due("the row is empty on day 0", y.count(9), 0);
        due("held as kept", x.count(8), 2);
        due("again(2)", x.again(2), UNKNOWN);
        due("again(-1)", x.again(-1), UNKNOWN);
        due("again(LOW)", x.again(LOW), UNKNOWN);
    }

    private static void count() {
        CockWar x = on("HT11T83C200150C712031C003421C913470W124W013");
        x.hold(3);
        x.blow(1);
        x.hold(0);
        x.hold(2);
        x.see(0, 0);
        int[] want = {x.wipe(), 4, 2, 1, 1, 2, 7, 258, 5, 4, 1};
        tell(x, "HT1");
        want[0] = 3;
        for (int what = 0; what <= 10; what++) due("count(" + what + ")", x.count(what), want[what]);
        due("count(11)", x.count(11), OUTSIDE);
        due("count(-1)", x.count(-1), OUTSIDE);
        due("count(HIGH)", x.count(HIGH), OUTSIDE);
        due("count(LOW)", x.count(LOW), OUTSIDE);
    }
}
