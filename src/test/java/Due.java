import java.util.ArrayList;
import java.util.List;
import java.util.function.Supplier;
import java.util.function.ToLongFunction;

/** What a case finds wrong; and the hills that many cases begin with. */
final class Due {
    static final int UNKNOWN = -1, OUTSIDE = -2, STATE = -3, FULL = -4, NONE = -9;
    static final int LOW = Integer.MIN_VALUE, HIGH = Integer.MAX_VALUE;

    /** Three cocks, two winds: WIND 0 goes towards 9, WIND 1 towards 0. */
    static final String BUSY = "HT01T93C400351C510060C703010W113W012";
    /** 64 letters: six cocks, three trees, three winds. */
    static final String LONGEST = "HC000010C100010C200010C300010C400010C500010T01T12T93W111W111W111";

    final List<String> wrong = new ArrayList<>();

    void due(String call, long got, long want) {
        if (got != want) wrong.add(call + " answered " + got + ", due is " + want);
    }

    static void tell(CockWar x, String text) {
        x.wipe();
        for (int i = 0; i < text.length(); i++) x.write(text.charAt(i));
    }

    static CockWar on(String text) {
        CockWar x = new CockWar();
        tell(x, text);
        x.hill();
        return x;
    }

    /** Everything is there that a call could change: acts, a brook and days, strings, sights, a slot, a seed. */
    static CockWar busy() {
        CockWar x = on(BUSY);
        x.seed(77);
        x.see(0, 1);
        x.keep(0);
        x.blow(1);
        x.hold(1);
        x.fell(9);
        x.grease(0);
        x.move(2, 8);
        x.capture(2);
        x.hold(0);
        return x;
    }

    /**
     * Cock 0, of this weight, in the lee of a tree on this cell; the other parish's cocks, of these weights,
     * are all rust. WIND 0 alone, of 2 days, would turn cock 0 were the tree not there.
     */
    static String lee(int tree, int weight, int... others) {
        boolean to9 = tree < 9;
        int cell = to9 ? tree + 1 : tree - 1;
        StringBuilder text = new StringBuilder("HT" + tree + "3C" + cell + (to9 ? "100" : "000") + weight + (to9 ? 0 : 1));
        for (int i = 0; i < others.length; i++) {
            text.append("C").append((cell + 1 + i) % 10).append(to9 ? "034" : "134").append(others[i]).append(to9 ? 1 : 0);
        }
        return text.append(to9 ? "W112" : "W012").toString();
    }

    /** Four winds of one day each, all towards 9 but the one of this number. */
    static String oneTo0(String cocks, int number) {
        StringBuilder text = new StringBuilder(cocks);
        for (int w = 0; w < 4; w++) text.append(w == number ? "W011" : "W111");
        return text.toString();
    }

    /** The call is refused so, by an object made so, and the object is as if it had not been called. */
    void refused(String call, int want, Supplier<CockWar> made, ToLongFunction<CockWar> asked) {
        CockWar x = made.get();
        due(call, asked.applyAsLong(x), want);
        same(call, x, made.get());
    }

    void refused(String call, int want, ToLongFunction<CockWar> asked) {
        refused(call, want, Due::busy, asked);
    }

    /** The call changes nothing. */
    void asksOnly(String call, ToLongFunction<CockWar> asked) {
        CockWar x = busy();
        asked.applyAsLong(x);
        same(call, x, busy());
    }

    /** Two objects that had the same calls but this one answer alike for ever; both are used up. */
    void same(String call, CockWar x, CockWar twin) {
        List<Long> got = readOut(x), want = readOut(twin);
        for (int i = 0; i < want.size(); i++) {
            if (!got.get(i).equals(want.get(i))) {
                wrong.add("behind " + call + " row " + i + " of all that can be read is " + got.get(i)
                        + ", without it " + want.get(i));
                return;
            }
        }
    }

    /** All that can be read, the acts, the slots and the text too; some 400 calls. */
    private static List<Long> readOut(CockWar x) {
        List<Long> all = new ArrayList<>();
        readHill(x, all);
        for (int w = 0; w < 4; w++) {
            for (int what = 0; what < 4; what++) all.add((long) x.wind(w, what));
            all.add((long) x.strings(w, 0));
        }
        all.add((long) x.winds());
        all.add((long) x.unsee());
        for (int i = 0; i <= 14; i++) {
            all.add((long) x.undo());
            for (int what = 3; what <= 8; what++) all.add((long) x.count(what));
            all.add((long) x.cock(0, 0));
            all.add((long) x.cock(0, 3));
        }
        for (int slot = 0; slot < 2; slot++) {
            all.add((long) x.again(slot));
            for (int what = 3; what <= 8; what++) all.add((long) x.count(what));
        }
        all.add(x.seed(0));
        // To read a fault or to make a hill is a call under test too: behind all else.
        all.add((long) x.fault());
        all.add((long) x.hill());
        readHill(x, all);
        return all;
    }

    private static void readHill(CockWar x, List<Long> all) {
        for (int what = 0; what <= 10; what++) all.add((long) x.count(what));
        for (int cell = 0; cell <= 9; cell++) all.add((long) x.tree(cell));
        for (int c = 0; c < 6; c++) {
            for (int what = 0; what <= 6; what++) all.add((long) x.cock(c, what));
        }
    }

    /** Behind this text these letters alone can stand, and no other of 0 to 255. */
    void nextLetters(String text, String allowed) {
        for (char letter = 0; letter <= 255; letter++) {
            boolean good = allowed.indexOf(letter) >= 0;
            CockWar x = new CockWar();
            tell(x, text + letter);
            int fault = x.fault();
            // A letter that can stand leaves a hill, or one that is only not at its end.
            boolean stands = fault == NONE || fault == text.length() + 1;
            if (stands != good || !good && fault != text.length()) {
                wrong.add("fault of " + text + " and letter " + (int) letter + " answered " + fault);
            }
        }
    }

    void faultOf(String text, int want) {
        CockWar x = new CockWar();
        tell(x, text);
        due("fault of " + text, x.fault(), want);
        due("hill of " + text + " is refused", x.hill() == STATE ? 1 : 0, want == NONE ? 0 : 1);
    }
}
