/** Promises 23 to 27: seen, held. */
final class SeenEdges {
    private static final int UNKNOWN = Due.UNKNOWN, OUTSIDE = Due.OUTSIDE, FULL = Due.FULL, NONE = Due.NONE;
    private static final int LOW = Due.LOW, HIGH = Due.HIGH;
    private static final String SIX = "HC000010C100010C200010C300010C400010C500010";
    /** All point towards 0; WIND 0 turns all four, WIND 1 none. */
    private static final String FOUR = "HC400010C510010C600110C703010W123W015";

    private SeenEdges() {}

    static void tell(Edges e) {
        e.promise(23);
        see(e);
        seeRefused(e);
        e.promise(24);
        unsee(e);
        e.promise(25);
        strings(e);
        stringsRefused(e);
        e.promise(26);
        winds(e);
        e.promise(27);
        rests(e);
        restsRefused(e);
    }

    private static CockWar sixSeen() {
        CockWar x = Due.busy();
        for (int i = 1; i < 6; i++) x.see(1, 0);
        return x;
    }

    private static void see(Edges e) {
        e.says("SEEN: how many there are.");
        e.edge("the first is one, the sixth cock can be seen", t -> {
            CockWar x = Due.on(SIX);
            for (int c = 5; c >= 0; c--) t.due("see(" + c + ",1)", x.see(c, 1), 6 - c);
            t.due("seen", x.count(10), 6);
            t.due("no act", x.count(9), 0);
        }).brokenIn("Sights.add", "return number;", "return number - 1;")
                .brokenIn("hasCock", "cock < cocks", "cock < cocks && cock < 5");
        e.says("SEEN: that a COCK pointed towards 0 or 9 behind a WIND, if it BLEW now:");
        e.edge("towards 0, and towards 9", t -> {
            CockWar x = Due.on(FOUR);
            x.see(3, 0);
            t.due("towards 0", x.winds(), 2);
            x.unsee();
            x.see(3, 1);
            t.due("towards 9", x.winds(), 1);
            x.blow(0);
            x.see(0, 0);
            t.due("now", x.winds(), 0);
        }).brokenIn("Sights.agree", "!= at(ways, i)", "== at(ways, i)")
                .brokenIn("Sights.agree", "bit(pointing, cock)", "bit(ground.ways, cock)");
        e.says("(of COCKS that there are not any more nothing is looked at;");
        e.edge("a cock that is no more, and is again", t -> {
            CockWar x = Due.on(FOUR);
            x.see(3, 1);
            Due.tell(x, "HC400010W111W015");
            x.hill();
            t.due("one cock", x.winds(), 3);
            t.due("seen still", x.count(10), 1);
            Due.tell(x, "HC400010C500010C600010W111W015");
            x.hill();
            t.due("three cocks", x.winds(), 3);
            t.due("three cocks, strings", x.strings(0, 0), 8);
            Due.tell(x, FOUR);
            x.hill();
            t.due("four cocks", x.winds(), 1);
        }).brokenIn("Sights.agree", "ground.hasCock(cock) &&", "");
        e.says("strings of now do not count).");
        e.edge("who is held now is looked at like the others", t -> {
            CockWar x = Due.on(FOUR);
            x.see(3, 1);
            x.hold(3);
            t.due("winds", x.winds(), 1);
            t.due("strings(0,0)", x.strings(0, 0), 8);
        }).brokenIn("winds", "air.waysBehind(now, w, 0, 0)", "air.waysBehind(now, w, now.held, 0)")
                .brokenIn("strings", "air.waysBehind(now, wind, held, 0)", "air.waysBehind(now, wind, held | now.held, 0)");
    }

    private static void seeRefused(Edges e) {
        e.says("UNKNOWN;");
        e.edge("-1 and less are no cock", t -> {
            t.refused("see(-1,0)", UNKNOWN, x -> x.see(-1, 0));
            t.refused("see(LOW,0)", UNKNOWN, x -> x.see(LOW, 0));
        }).brokenIn("hasCock", "cock >= 0", "cock >= -1");
        e.edge("there is no cock behind the last", t -> {
            t.refused("see(3,0)", UNKNOWN, x -> x.see(3, 0));
            t.refused("see(HIGH,0)", UNKNOWN, x -> x.see(HIGH, 0));
            t.refused("see(0,0) of a new object", UNKNOWN, CockWar::new, x -> x.see(0, 0));
        }).brokenIn("hasCock", "cock < cocks", "cock <= cocks");
        e.says("OUTSIDE: points (0, 1);");
        e.edge("-1 and less are no way to point", t -> {
            t.refused("see(0,-1)", OUTSIDE, x -> x.see(0, -1));
            t.refused("see(0,LOW)", OUTSIDE, x -> x.see(0, LOW));
        }).brokenIn("see", "points < 0", "points < -1");
        e.edge("2 and more are no way to point", t -> {
            t.refused("see(0,2)", OUTSIDE, x -> x.see(0, 2));
            t.refused("see(0,9)", OUTSIDE, x -> x.see(0, 9));
            t.refused("see(0,HIGH)", OUTSIDE, x -> x.see(0, HIGH));
        }).brokenIn("see", "points > 1", "points > 2").brokenIn("see", "points > 1", "points > 9");
        e.says("FULL: 6.");
        e.edge("a seventh", t -> {
            t.due("the sixth", sixSeen().count(10), 6);
            t.refused("see(0,1)", FULL, SeenEdges::sixSeen, x -> x.see(0, 1));
            t.refused("see(0,0)", FULL, SeenEdges::sixSeen, x -> x.see(0, 0));
        }).brokenIn("", "MOST_SIGHTS = 6", "MOST_SIGHTS = 7")
                .brokenIn("Sights.add", "return FULL;", "put(ways, 5, 1);\n return FULL;")
                .brokenIn("Sights.add", "number >= MOST_SIGHTS", "number > MOST_SIGHTS");
        e.says("6 such at most, none at first");
        e.edge("all six are looked at", t -> {
            CockWar x = Due.on(SIX + "W111W001");
            for (int c = 0; c < 5; c++) x.see(c, 1);
            t.due("five towards 9", x.winds(), 1);
            t.due("the sixth", x.see(5, 0), 6);
            t.due("and the sixth towards 0", x.winds(), 0);
            t.due("strings", x.strings(0, 0), 1);
        }).brokenIn("", "MOST_SIGHTS = 6", "MOST_SIGHTS = 5")
                .brokenIn("Sights.agree", "i < number", "i < Math.min(number, 5)");
        e.says("REFUSALS, of several the first that a call names");
        e.edge("UNKNOWN goes ahead of OUTSIDE, and OUTSIDE of FULL", t -> {
            t.refused("see(3,2)", UNKNOWN, x -> x.see(3, 2));
            t.refused("see(3,2) behind six", UNKNOWN, SeenEdges::sixSeen, x -> x.see(3, 2));
            t.refused("see(-1,0) behind six", UNKNOWN, SeenEdges::sixSeen, x -> x.see(-1, 0));
            t.refused("see(0,2) behind six", OUTSIDE, SeenEdges::sixSeen, x -> x.see(0, 2));
        }).brokenIn("see", "!now.hasCock(cock)", "!now.hasCock(cock) && points >= 0 && points <= 1")
                .brokenIn("see", "!now.hasCock(cock)", "!now.hasCock(cock) && sights.number < 6")
                .brokenIn("see", "points > 1", "points > 1 && sights.number < 6");
    }

    private static void unsee(Edges e) {
        e.says("Nothing is SEEN: how many there were.");
        e.edge("there was none", t -> {
            CockWar x = Due.on(FOUR);
            t.due("unsee", x.unsee(), 0);
            x.see(0, 0);
            x.unsee();
            t.due("unsee behind an unsee", x.unsee(), 0);
        }).brokenIn("unsee", "sights.number = 0;", "sights.number = was > 0 ? 1 : 0;")
                .brokenIn("unsee", "return was;", "return Math.max(1, was);");
        e.edge("there were six, and six come again", t -> {
            CockWar x = sixSeen();
            t.due("unsee", x.unsee(), 6);
            t.due("seen", x.count(10), 0);
            t.due("nothing is looked at", x.winds(), 3);
            for (int i = 1; i <= 6; i++) t.due("see " + i, x.see(0, 0), i);
            t.due("a seventh", x.see(0, 0), FULL);
        }).brokenIn("unsee", "sights.number = 0;", "sights.number = was / 6;")
                .brokenIn("unsee", "return was;", "return Math.min(5, was);");
        e.edge("all else stays", t -> {
            CockWar x = Due.busy();
            x.unsee();
            x.see(0, 1);
            t.same("unsee() and the same see", x, Due.busy());
        }).brokenIn("unsee", "return was;", "acts.forget();\n return was;");
    }

    private static void stringsAre(Due t, CockWar x, String when, int sets, int inAll, int inNone) {
        t.due(when + ", sets", x.strings(0, 0), sets);
        t.due(when + ", in all", x.strings(0, 1), inAll);
        t.due(when + ", in none", x.strings(0, 2), inNone);
    }

    private static void strings(Edges e) {
        e.says("STRINGS for a WIND: sets of COCKS (bits) that, HELD, make all that is SEEN so: "
                + "how many; who is in all; in none.");
        e.edge("without cocks there is one set, of nobody", t -> stringsAre(t, Due.on("HW111"), "no cocks", 1, 0, 0))
                .brokenIn("strings", "int held = 0", "int held = 1")
                .brokenIn("strings", "int every = now.everyCock();", "int every = Math.max(1, now.everyCock());");
        e.edge("with nothing seen all sets of six do", t -> stringsAre(t, Due.on(SIX + "W111"), "six", 64, 0, 0))
                .brokenIn("strings", "held <= every", "held < every")
                .brokenIn("strings", "int held = 0", "int held = 1");
        e.edge("all six seen to stay, or all six seen to turn", t -> {
            CockWar x = Due.on(SIX + "W111");
            for (int c = 0; c < 6; c++) x.see(c, 0);
            stringsAre(t, x, "stayed", 1, 63, 0);
            x.unsee();
            for (int c = 0; c < 6; c++) x.see(c, 1);
            stringsAre(t, x, "turned", 1, 0, 63);
        }).brokenIn("strings", "held <= every", "held < every")
                .brokenIn("strings", "inAll &= held;", "inAll &= held & 31;")
                .brokenIn("strings", "every & ~inSome", "31 & ~inSome");
        e.edge("who would not turn may be held or not", t -> {
            // Cock 0 in the lee of a tree, cock 1 rusty, cock 2 points so already.
            CockWar x = Due.on("HT01C100010C410110C500011W111");
            x.see(0, 0);
            x.see(1, 0);
            x.see(2, 1);
            stringsAre(t, x, "all stay", 8, 0, 0);
        }).brokenIn("yieldingTo", "strength > at(rusts, c) && shelter <= at(heights, c)", "shelter <= at(heights, c)")
                .brokenIn("yieldingTo", "strength > at(rusts, c) && shelter <= at(heights, c)", "strength > at(rusts, c)");
        e.edge("who is in the lee of a tree may be held or not, on whatever cell it stands", t -> {
            for (int tree = 0; tree <= 9; tree++) {
                CockWar x = Due.on(Due.lee(tree, 5, 3));
                x.see(0, tree < 9 ? 0 : 1);
                stringsAre(t, x, "tree on " + tree, 4, 0, 0);
            }
        }).brokenIn("strings", "held, 0)", "held, 1)")
                .brokenIn("strings", "held, 0)", "held, 2)").brokenIn("strings", "held, 0)", "held, 512)");
        e.edge("for each wind its own", t -> {
            for (int number = 0; number < 4; number++) {
                CockWar x = Due.on(Due.oneTo0("HC400050C510030", number));
                x.see(0, 1);
                for (int w = 0; w < 4; w++) t.due("strings(" + w + ",0)", x.strings(w, 0), w == number ? 0 : 2);
            }
        }).brokenIn("strings", "air.waysBehind(now, wind,", "air.waysBehind(now, 0,");
        e.says("STRINGS: how many sets (what = 0), who is in all (1), in none (2), as bits; NONE (of 1, 2): there is none.");
        e.edge("where there is none", t -> {
            CockWar x = Due.on("HC400010C501010W101W111");
            x.see(0, 1);
            stringsAre(t, x, "a wind that turns none", 0, NONE, NONE);
            x.unsee();
            x.see(1, 0);
            x.see(1, 1);
            stringsAre(t, x, "seen both ways", 0, NONE, NONE);
            t.due("by the other wind", x.strings(1, 0), 0);
        }).brokenIn("strings", "if (sets == 0)", "if (sets < 0)")
                .brokenIn("strings", "if (what == 0)", "if (what == 0 && sets > 0)")
                .brokenIn("strings", "return NONE;", "return what == 1 ? NONE : 0;");
        e.edge("nobody is held by it", t -> {
            t.asksOnly("strings(0,0)", x -> x.strings(0, 0));
            t.asksOnly("strings(1,1)", x -> x.strings(1, 1));
        }).brokenIn("strings", "int sets = 0;", "int sets = 0;\n now.held = 0;")
                .brokenIn("strings", "int sets = 0;", "int sets = 0;\n sights.number = 0;");
    }

    private static void stringsRefused(Edges e) {
        e.says("UNKNOWN;");
        e.edge("-1 and less are no wind", t -> {
            t.refused("strings(-1,0)", UNKNOWN, x -> x.strings(-1, 0));
            t.refused("strings(LOW,0)", UNKNOWN, x -> x.strings(LOW, 0));
        }).brokenIn("hasWind", "wind >= 0", "wind >= -1");
        e.edge("there is no wind behind the last", t -> {
            t.refused("strings(2,0)", UNKNOWN, x -> x.strings(2, 0));
            t.refused("strings(HIGH,0)", UNKNOWN, x -> x.strings(HIGH, 0));
            t.refused("strings(0,0) of a new object", UNKNOWN, CockWar::new, x -> x.strings(0, 0));
        }).brokenIn("hasWind", "wind < winds", "wind <= winds");
        e.says("OUTSIDE.");
        e.edge("-1 and less are nothing of strings", t -> {
            t.refused("strings(0,-1)", OUTSIDE, x -> x.strings(0, -1));
            t.refused("strings(0,LOW)", OUTSIDE, x -> x.strings(0, LOW));
        }).brokenIn("strings", "what < 0", "what < -1");
        e.edge("3 and more are nothing of strings", t -> {
            t.refused("strings(0,3)", OUTSIDE, x -> x.strings(0, 3));
            t.refused("strings(0,HIGH)", OUTSIDE, x -> x.strings(0, HIGH));
        }).brokenIn("strings", "what > 2", "what > 3");
        e.says("REFUSALS, of several the first that a call names");
        e.edge("UNKNOWN goes ahead of OUTSIDE", t -> {
            t.refused("strings(2,3)", UNKNOWN, x -> x.strings(2, 3));
            t.refused("strings(-1,-1)", UNKNOWN, x -> x.strings(-1, -1));
        }).brokenIn("strings", "!air.hasWind(wind)", "!air.hasWind(wind) && what >= 0 && what <= 2");
    }

    private static void winds(Edges e) {
        e.says("WINDS, as bits.");
        e.edge("none, where there are no winds", t -> t.due("winds", Due.on(SIX).winds(), 0))
                .brokenIn("winds", "int fitting = 0;", "int fitting = 1;");
        e.edge("all four, and the fourth alone", t -> {
            CockWar x = Due.on("HC400010W101W011W101W111");
            t.due("nothing seen", x.winds(), 15);
            x.see(0, 1);
            t.due("turned", x.winds(), 8);
            x.see(0, 0);
            t.due("seen both ways", x.winds(), 0);
        }).brokenIn("winds", "w < air.winds", "w < Math.min(air.winds, 3)")
                .brokenIn("winds", "w < air.winds", "w < air.winds - 1");
        e.says("WINDS: which (bits), nobody being HELD, make all that is SEEN so.");
        e.edge("nobody is held for it, whoever is", t -> {
            CockWar x = Due.on(SIX + "W111");
            for (int c = 0; c < 6; c++) {
                x.see(c, 1);
                x.hold(c);
            }
            t.due("winds", x.winds(), 1);
        }).brokenIn("winds", "air.waysBehind(now, w, 0, 0)", "air.waysBehind(now, w, now.held, 0)")
                .brokenIn("winds", "air.waysBehind(now, w, 0, 0)", "air.waysBehind(now, w, now.held & 32, 0)");
        e.edge("who is in the lee of a tree was seen to stay, on whatever cell it stands", t -> {
            CockWar x = Due.on("HT01C100010C510010W111");
            x.see(0, 0);
            x.see(1, 1);
            t.due("one stayed, one turned", x.winds(), 1);
            for (int tree = 0; tree <= 9; tree++) {
                CockWar y = Due.on(Due.lee(tree, 5));
                y.see(0, tree < 9 ? 0 : 1);
                t.due("tree on " + tree, y.winds(), 1);
            }
        }).brokenIn("winds", "0, 0)", "0, 1)")
                .brokenIn("winds", "0, 0)", "0, 2)").brokenIn("winds", "0, 0)", "0, 512)");
        e.edge("no wind blows, and strings stay", t -> t.asksOnly("winds()", x -> x.winds()))
                .brokenIn("winds", "int fitting = 0;", "int fitting = 0;\n now.held = 0;")
                .brokenIn("winds", "return fitting;", "now.days++;\n return fitting;");
    }

    private static void rests(Edges e) {
        e.says("RESTS UNDER a WIND: each PARISH holds one COCK of its own, or none (nobody else is HELD): "
                + "pairs in which neither would have THE BROOK by another choice alone, if it has it not: how many;");
        e.edge("without cocks the pair of none and none", t -> {
            t.due("rests(0,0)", Due.on("HW111").rests(0, 0), 1);
            t.due("rests(0,1)", Due.on("HW111").rests(0, 1), 0);
        }).brokenIn("rests", "int a = 0", "int a = 1").brokenIn("rests", "int b = 0", "int b = 1");
        e.edge("without a choice that matters all pairs", t -> {
            t.due("three and three", Due.on("HC000010C110010C200010C310010C400010C510010W001").rests(0, 0), 16);
            t.due("six and none", Due.on(SIX + "W001").rests(0, 0), 7);
        }).brokenIn("rests", "a <= now.cocks", "a < now.cocks").brokenIn("rests", "b <= now.cocks", "b < now.cocks");
        e.edge("a parish holds none but its own", t -> {
            // If PARISH 0 could hold cock 1, or PARISH 1 cock 0, it would have the brook.
            CockWar x = Due.on("HC400030C510050W111");
            t.due("to 9", x.rests(0, 0), 2);
            t.due("to 9, first", x.rests(0, 1), 2);
        }).brokenIn("mayHold", "bit(now.parishes, choice - 1) == parish", "true")
                .brokenIn("mayHold", "bit(now.parishes, choice - 1) == parish", "bit(now.parishes, choice - 1) != parish");
        e.edge("nor does it by another choice", t -> {
            // PARISH 0 would have the brook if it could hold cock 1 towards 9, for then all would be even.
            CockWar x = Due.on("HC400031C510051W011");
            t.due("cock 1 is PARISH 1's", x.rests(0, 0), 2);
            t.due("cock 1 is PARISH 1's, first", x.rests(0, 1), 0);
            // PARISH 1 would have it if it could hold cock 0 towards 0: none against 1.
            CockWar y = Due.on("HC400050C510030C613410W111");
            t.due("cock 0 is PARISH 0's", y.rests(0, 0), 3);
            t.due("cock 0 is PARISH 0's, first", y.rests(0, 1), 0);
        }).brokenIn("isAtRest", "mayHold(0, other) &&", "").brokenIn("isAtRest", "mayHold(1, other) &&", "");
        e.edge("under each wind its own", t -> {
            for (int number = 0; number < 4; number++) {
                CockWar x = Due.on(Due.oneTo0("HC400050C510030", number));
                for (int w = 0; w < 4; w++) t.due("rests(" + w + ",0)", x.rests(w, 0), w == number ? 4 : 2);
            }
        }).brokenIn("brookHeld", "air.brookUnder(now, wind,", "air.brookUnder(now, 0,")
                .brokenIn("rests", "isAtRest(wind, a, b)", "isAtRest(0, a, b)")
                .brokenIn("isAtRest", "int owner = brookHeld(wind, a, b)", "int owner = brookHeld(0, a, b)")
                .brokenIn("isAtRest", "brookHeld(wind, other, b)", "brookHeld(0, other, b)")
                .brokenIn("isAtRest", "brookHeld(wind, a, other)", "brookHeld(0, a, other)");
        e.edge("nobody else is held, whoever is now", t -> {
            CockWar x = Due.on("HC400050C510030W111");
            x.hold(0);
            x.hold(1);
            t.due("rests(0,0)", x.rests(0, 0), 2);
            t.due("rests(0,1)", x.rests(0, 1), 0);
        }).brokenIn("brookHeld", "1 << a >> 1 |", "now.held | 1 << a >> 1 |");
        e.edge("by another choice alone either parish would take the brook", t -> {
            // PARISH 1 must hold cock 1 (5 against 4); PARISH 0 has no choice that helps.
            CockWar x = Due.on("HC403441C510050W111");
            t.due("PARISH 1 must hold", x.rests(0, 0), 2);
            t.due("PARISH 1 must hold, first", x.rests(0, 1), 2);
            CockWar y = Due.on("HC413440C500051W011");
            t.due("PARISH 0 must hold", y.rests(0, 0), 2);
            t.due("PARISH 0 must hold, first", y.rests(0, 1), 20);
        }).brokenIn("isAtRest", "owner == 1 &&", "owner == 2 &&").brokenIn("isAtRest", "owner == 0 &&", "owner == 2 &&");
        e.edge("who is in the lee of a tree stays without a string, on whatever cell it stands", t -> {
            t.due("all four pairs", Due.on("HT01C100020C913410W111").rests(0, 0), 4);
            for (int tree = 0; tree <= 9; tree++) t.due("tree on " + tree, Due.on(Due.lee(tree, 5, 3)).rests(0, 0), 4);
        }).brokenIn("brookHeld", "1 << b >> 1, 0)", "1 << b >> 1, 1)")
                .brokenIn("brookHeld", "1 << b >> 1, 0)", "1 << b >> 1, 2)").brokenIn("brookHeld", "1 << b >> 1, 0)", "1 << b >> 1, 512)");
        e.edge("even, it stays whose it is", t -> {
            // 3 and 3 if PARISH 1 holds, else 3 and 0.
            CockWar x = Due.on("HC403431C510030W111");
            t.due("PARISH 0's", x.rests(0, 0), 4);
            x.capture(0);
            x.hold(1);
            t.due("0 and 3", x.blow(0), 1);
            x.capture(0);
            t.due("PARISH 1's", x.rests(0, 0), 2);
            t.due("PARISH 1's, first", x.rests(0, 1), 2);
        }).brokenIn("brookBy", "return brook;", "return 0;").brokenIn("brookBy", "return brook;", "return 1;");
        e.says("the first (by PARISH 0's: none, then COCKS by number; then PARISH 1's likewise), "
                + "as two figures (0 none, else the number and 1); NONE.");
        e.edge("the sixth cock is a 6, of either parish", t -> {
            String five = "HC003411C103411C203411C303411C403411";
            t.due("of PARISH 1, all", Due.on(five + "C510090W111").rests(0, 0), 6);
            t.due("of PARISH 1", Due.on(five + "C510090W111").rests(0, 1), 6);
            String other = "HC013410C113410C213410C313410C413410";
            t.due("of PARISH 0, all", Due.on(other + "C500091W011").rests(0, 0), 6);
            t.due("of PARISH 0", Due.on(other + "C500091W011").rests(0, 1), 60);
        }).brokenIn("rests", "10 * a + b", "10 * (a % 6) + b % 6")
                .brokenIn("rests", "10 * a + b", "10 * b + a");
        e.says("RESTS: how many (what = 0), the first (1); NONE.");
        e.edge("none goes ahead of a cock, and the lesser cock of the greater", t -> {
            CockWar x = Due.on("HC400010C500010C600090W001");
            t.due("none and none", x.rests(0, 1), 0);
            // Cock 1 or cock 2 held towards 9 is enough, cock 0 is not.
            CockWar y = Due.on("HC400011C500051C600051C713440W011");
            t.due("cock 1", y.rests(0, 1), 20);
            t.due("cock 1 or 2, cock 3 or none", y.rests(0, 0), 4);
        }).brokenIn("rests", "first == NONE ? 10 * a + b : first", "10 * a + b");
        e.edge("nobody is held by it", t -> {
            t.asksOnly("rests(0,0)", x -> x.rests(0, 0));
            t.asksOnly("rests(1,1)", x -> x.rests(1, 1));
        }).brokenIn("rests", "int pairs = 0;", "int pairs = 0;\n now.held = 0;");
    }

    private static void restsRefused(Edges e) {
        e.says("UNKNOWN;");
        e.edge("-1 and less are no wind", t -> {
            t.refused("rests(-1,0)", UNKNOWN, x -> x.rests(-1, 0));
            t.refused("rests(LOW,0)", UNKNOWN, x -> x.rests(LOW, 0));
        }).brokenIn("hasWind", "wind >= 0", "wind >= -1");
        e.edge("there is no wind behind the last", t -> {
            t.refused("rests(2,0)", UNKNOWN, x -> x.rests(2, 0));
            t.refused("rests(HIGH,0)", UNKNOWN, x -> x.rests(HIGH, 0));
            t.refused("rests(0,0) of a new object", UNKNOWN, CockWar::new, x -> x.rests(0, 0));
        }).brokenIn("hasWind", "wind < winds", "wind <= winds");
        e.says("OUTSIDE.");
        e.edge("-1 and less are nothing of rests", t -> {
            t.refused("rests(0,-1)", OUTSIDE, x -> x.rests(0, -1));
            t.refused("rests(0,LOW)", OUTSIDE, x -> x.rests(0, LOW));
        }).brokenIn("rests", "what < 0", "what < -1");
        e.edge("2 and more are nothing of rests", t -> {
            t.refused("rests(0,2)", OUTSIDE, x -> x.rests(0, 2));
            t.refused("rests(0,HIGH)", OUTSIDE, x -> x.rests(0, HIGH));
        }).brokenIn("rests", "what > 1", "what > 2");
        e.says("REFUSALS, of several the first that a call names");
        e.edge("UNKNOWN goes ahead of OUTSIDE", t -> {
            t.refused("rests(2,2)", UNKNOWN, x -> x.rests(2, 2));
            t.refused("rests(-1,-1)", UNKNOWN, x -> x.rests(-1, -1));
        }).brokenIn("rests", "!air.hasWind(wind)", "!air.hasWind(wind) && what >= 0 && what <= 1");
    }
}
