import java.math.BigInteger;
import java.util.ArrayList;
import java.util.HashSet;
import java.util.List;
import java.util.Set;
import java.util.function.IntUnaryOperator;
import java.util.regex.Pattern;

/**
 * What DOC.md says, written a second time and otherwise than CockWar: whatever is asked is tried on
 * a copy of the hill, with the acts themselves. For tests alone; slow, and makes objects freely.
 */
final class PlainModel {
    static final int UNKNOWN = -1, OUTSIDE = -2, STATE = -3, FULL = -4, NONE = -9;

    private record Wind(boolean toNine, int strength, int days) {}

    private record Sight(int cock, boolean nine) {}

    private static final class Cock {
        int cell, parish, high, rust, weight;
        boolean nine, held;

        Cock copy() {
            Cock c = new Cock();
            c.cell = cell;
            c.parish = parish;
            c.high = high;
            c.rust = rust;
            c.weight = weight;
            c.nine = nine;
            c.held = held;
            return c;
        }
    }

    private static final class World {
        final int[] trees = new int[10];
        final List<Cock> cocks = new ArrayList<>();
        int brook, days;

        World copy() {
            World w = new World();
            System.arraycopy(trees, 0, w.trees, 0, 10);
            for (Cock c : cocks) w.cocks.add(c.copy());
            w.brook = brook;
            w.days = days;
            return w;
        }

        int sum(int parish) {
            int sum = 0;
            for (Cock c : cocks) {
                if (c.parish == parish && c.nine == (parish == 0)) sum += c.weight;
            }
            return sum;
        }

        void settle() {
            if (sum(0) > sum(1)) brook = 0;
            if (sum(1) > sum(0)) brook = 1;
        }

        int blow(Wind wind) {
            for (Cock c : cocks) {
                int from = wind.toNine ? c.cell - 1 : c.cell + 1;
                int tree = from < 0 || from > 9 ? 0 : trees[from];
                if (!c.held && wind.strength > c.rust && tree <= c.high) c.nine = wind.toNine;
            }
            settle();
            for (Cock c : cocks) c.held = false;
            days++;
            return brook;
        }

        World holding(int bits) {
            World w = copy();
            for (int i = 0; i < w.cocks.size(); i++) w.cocks.get(i).held = (bits >> i & 1) == 1;
            return w;
        }

        int heldBits() {
            int bits = 0;
            for (int i = 0; i < cocks.size(); i++) if (cocks.get(i).held) bits |= 1 << i;
            return bits;
        }

        boolean cockOn(int cell) {
            return cocks.stream().anyMatch(c -> c.cell == cell);
        }
    }

    private String text = "";
    private World world = new World();
    private List<Wind> winds = new ArrayList<>();
    private final List<World> row = new ArrayList<>();
    private final List<Sight> sights = new ArrayList<>();
    private final World[] slots = new World[2];
    private BigInteger seed = BigInteger.ZERO;

    // ---- the hill

    int write(int letter) {
        if (letter < 0 || letter > 255) return OUTSIDE;
        if (text.length() == 64) return FULL;
        text += (char) letter;
        return text.length();
    }

    int wipe() {
        int n = text.length();
        text = "";
        return n;
    }

    private static final Pattern SHAPE =
            Pattern.compile("H(T[0-9][1-3]|C[0-9][01][0-3][0-4][1-9][01]|W[01][0-5][1-9])*");
    private static final Pattern PART = Pattern.compile("[TCW][0-9]+");

    static boolean isHill(String s) {
        if (!SHAPE.matcher(s).matches()) return false;
        Set<String> once = new HashSet<>();
        int cocks = 0, winds = 0;
        var parts = PART.matcher(s);
        while (parts.find()) {
            String part = parts.group();
            if (part.startsWith("C")) cocks++;
            if (part.startsWith("W")) winds++;
            if (!part.startsWith("W") && !once.add(part.substring(0, 2))) return false;
        }
        return cocks <= 6 && winds <= 4;
    }

    /** A part that has begun can be ended by ones, behind a cell of any number. */
    private static boolean canBecomeHill(String s) {
        if (s.isEmpty()) return true;
        for (int ones = 0; ones <= 6; ones++) {
            if (isHill(s + "1".repeat(ones))) return true;
            for (int cell = 0; cell <= 9; cell++) {
                if (isHill(s + cell + "1".repeat(ones))) return true;
            }
        }
        return false;
    }

    int fault() {
        // What begins a text that can become a hill can become one too: so the place can be halved.
        int good = 0, bad = text.length() + 1;
        while (bad - good > 1) {
            int middle = (good + bad) / 2;
            if (canBecomeHill(text.substring(0, middle))) good = middle;
            else bad = middle;
        }
        return good < text.length() ? good : isHill(text) ? NONE : text.length();
    }

    int hill() {
        if (!isHill(text)) return STATE;
        world = new World();
        winds = new ArrayList<>();
        var parts = PART.matcher(text);
        while (parts.find()) {
            String p = parts.group();
            IntUnaryOperator f = i -> p.charAt(i) - '0';
            if (p.startsWith("T")) world.trees[f.applyAsInt(1)] = f.applyAsInt(2);
            if (p.startsWith("W")) winds.add(new Wind(p.charAt(1) == '1', f.applyAsInt(2), f.applyAsInt(3)));
            if (p.startsWith("C")) {
                Cock c = new Cock();
                c.cell = f.applyAsInt(1);
                c.parish = f.applyAsInt(2);
                c.high = f.applyAsInt(3);
                c.rust = f.applyAsInt(4);
                c.weight = f.applyAsInt(5);
                c.nine = p.charAt(6) == '1';
                world.cocks.add(c);
            }
        }
        row.clear();
        slots[0] = null;
        slots[1] = null;
        return 10 * world.cocks.size() + winds.size();
    }

    int tree(int cell) {
        return cell < 0 || cell > 9 ? OUTSIDE : world.trees[cell];
    }

    private boolean noCock(int cock) {
        return cock < 0 || cock >= world.cocks.size();
    }

    private boolean noWind(int wind) {
        return wind < 0 || wind >= winds.size();
    }

    int cock(int cock, int what) {
        if (noCock(cock)) return UNKNOWN;
        if (what < 0 || what > 6) return OUTSIDE;
        Cock c = world.cocks.get(cock);
        return new int[] {c.cell, c.parish, c.high, c.rust, c.weight, c.nine ? 1 : 0, c.held ? 1 : 0}[what];
    }

    int wind(int wind, int what) {
        if (noWind(wind)) return UNKNOWN;
        if (what < 0 || what > 3) return OUTSIDE;
        Wind w = winds.get(wind);
        World then = world.copy();
        then.blow(w);
        int turned = 0;
        for (int i = 0; i < world.cocks.size(); i++) {
            if (then.cocks.get(i).nine != world.cocks.get(i).nine) turned |= 1 << i;
        }
        return new int[] {w.toNine ? 1 : 0, w.strength, w.days, turned}[what];
    }

    // ---- acts

    private void act() {
        row.add(world.copy());
        if (row.size() > 14) row.remove(0);
    }

    int blow(int wind) {
        if (noWind(wind)) return UNKNOWN;
        act();
        return world.blow(winds.get(wind));
    }

    int fell(int cell) {
        if (cell < 0 || cell > 9) return OUTSIDE;
        if (world.trees[cell] == 0) return STATE;
        act();
        int was = world.trees[cell];
        world.trees[cell] = 0;
        return was;
    }

    int move(int cock, int cell) {
        if (noCock(cock)) return UNKNOWN;
        if (cell < 0 || cell > 9) return OUTSIDE;
        if (world.cockOn(cell)) return STATE;
        act();
        int was = world.cocks.get(cock).cell;
        world.cocks.get(cock).cell = cell;
        return was;
    }

    int grease(int cock) {
        if (noCock(cock)) return UNKNOWN;
        int was = world.cocks.get(cock).rust;
        if (was == 0) return STATE;
        act();
        world.cocks.get(cock).rust = 0;
        return was;
    }

    int capture(int cock) {
        if (noCock(cock)) return UNKNOWN;
        act();
        Cock c = world.cocks.get(cock);
        c.parish = c.parish == 0 ? 1 : 0;
        return c.parish;
    }

    int hold(int cock) {
        if (noCock(cock)) return UNKNOWN;
        act();
        Cock c = world.cocks.get(cock);
        c.held = !c.held;
        return c.held ? 1 : 0;
    }

    int undo() {
        if (row.isEmpty()) return STATE;
        world = row.remove(row.size() - 1);
        return row.size();
    }

    // ---- under winds

    int under(int wind) {
        return noWind(wind) ? UNKNOWN : world.copy().blow(winds.get(wind));
    }

    private int year(World from, int parish) {
        int sum = 0;
        for (Wind w : winds) if (from.copy().blow(w) == parish) sum += w.days;
        return sum;
    }

    int year(int parish) {
        return parish < 0 || parish > 1 ? OUTSIDE : year(world, parish);
    }

    /** All plans as rows {year, cock, cell, tree}, and of these the best by comparing two and two. */
    int placing(int parish, int what) {
        if (parish < 0 || parish > 1 || what < 0 || what > 3) return OUTSIDE;
        List<int[]> plans = new ArrayList<>();
        for (int cock = -1; cock < world.cocks.size(); cock++) {
            for (int cell = 0; cell <= 9; cell++) {
                for (int tree = -1; tree <= 9; tree++) {
                    World then = world.copy();
                    if (cock >= 0) {
                        if (then.cocks.get(cock).parish != parish || then.cockOn(cell)) continue;
                        then.cocks.get(cock).cell = cell;
                    }
                    if (tree >= 0) {
                        if (then.trees[tree] == 0) continue;
                        then.trees[tree] = 0;
                    }
                    plans.add(new int[] {-year(then, parish), cock, cock < 0 ? -1 : cell, tree});
                }
            }
        }
        plans.sort(java.util.Arrays::compare);
        int[] best = plans.get(0);
        return what == 0 ? -best[0] : best[what] < 0 ? NONE : best[what];
    }

    int trees(int parish, int wind) {
        if (parish < 0 || parish > 1) return OUTSIDE;
        if (noWind(wind)) return UNKNOWN;
        for (int number = 0; number <= 10; number++) {
            for (int bits = 0; bits < 1024; bits++) {
                if (Integer.bitCount(bits) != number) continue;
                World then = world.copy();
                boolean all = true;
                for (int cell = 0; cell < 10; cell++) {
                    if ((bits >> cell & 1) == 1) {
                        all &= then.trees[cell] > 0;
                        then.trees[cell] = 0;
                    }
                }
                if (all && then.blow(winds.get(wind)) == parish) return bits;
            }
        }
        return NONE;
    }

    int decides(int wind) {
        if (noWind(wind)) return UNKNOWN;
        int bits = 0;
        int then = world.copy().blow(winds.get(wind));
        for (int i = 0; i < world.cocks.size(); i++) {
            World other = world.copy();
            other.blow(winds.get(wind));
            other.brook = world.brook;
            other.cocks.get(i).nine = !other.cocks.get(i).nine;
            other.settle();
            if (other.brook != then) bits |= 1 << i;
        }
        return bits;
    }

    int power(int cock) {
        if (noCock(cock)) return UNKNOWN;
        int different = 0;
        for (int bits = 0; bits < 1 << world.cocks.size(); bits++) {
            World one = world.copy();
            for (int i = 0; i < one.cocks.size(); i++) one.cocks.get(i).nine = (bits >> i & 1) == 1;
            World other = one.copy();
            other.cocks.get(cock).nine = !other.cocks.get(cock).nine;
            one.settle();
            other.settle();
            if (one.brook != other.brook) different++;
        }
        return different / 2;
    }

    int judge(int n, int row) {
        if (n < 1 || n > 6 || row < 0) return OUTSIDE;
        String figures = String.valueOf(row);
        if (figures.length() > n) return OUTSIDE;
        figures = "0".repeat(n - figures.length()) + figures;
        World then = world.copy();
        for (int i = 0; i < n; i++) {
            int wind = figures.charAt(i) - '0';
            if (noWind(wind) || then.blow(winds.get(wind)) == 1) return i;
        }
        return NONE;
    }

    // ---- seen, held

    int see(int cock, int points) {
        if (noCock(cock)) return UNKNOWN;
        if (points < 0 || points > 1) return OUTSIDE;
        if (sights.size() == 6) return FULL;
        sights.add(new Sight(cock, points == 1));
        return sights.size();
    }

    int unsee() {
        int n = sights.size();
        sights.clear();
        return n;
    }

    private boolean fits(int held, Wind wind) {
        World then = world.holding(held);
        then.blow(wind);
        for (Sight s : sights) {
            if (s.cock < then.cocks.size() && then.cocks.get(s.cock).nine != s.nine) return false;
        }
        return true;
    }

    int strings(int wind, int what) {
        if (noWind(wind)) return UNKNOWN;
        if (what < 0 || what > 2) return OUTSIDE;
        List<Integer> sets = new ArrayList<>();
        for (int held = 0; held < 1 << world.cocks.size(); held++) {
            if (fits(held, winds.get(wind))) sets.add(held);
        }
        if (what == 0) return sets.size();
        if (sets.isEmpty()) return NONE;
        int bits = 0;
        for (int i = 0; i < world.cocks.size(); i++) {
            int cock = i;
            boolean yes = what == 1
                    ? sets.stream().allMatch(s -> (s >> cock & 1) == 1)
                    : sets.stream().noneMatch(s -> (s >> cock & 1) == 1);
            if (yes) bits |= 1 << i;
        }
        return bits;
    }

    int winds() {
        int bits = 0;
        for (int w = 0; w < winds.size(); w++) if (fits(0, winds.get(w))) bits |= 1 << w;
        return bits;
    }

    int rests(int wind, int what) {
        if (noWind(wind)) return UNKNOWN;
        if (what < 0 || what > 1) return OUTSIDE;
        List<List<Integer>> choices = List.of(new ArrayList<>(List.of(-1)), new ArrayList<>(List.of(-1)));
        for (int i = 0; i < world.cocks.size(); i++) choices.get(world.cocks.get(i).parish).add(i);
        int number = 0, first = NONE;
        for (int a : choices.get(0)) {
            for (int b : choices.get(1)) {
                int owner = outcome(wind, a, b);
                boolean rest = owner == 0
                        ? choices.get(1).stream().noneMatch(x -> outcome(wind, a, x) == 1)
                        : choices.get(0).stream().noneMatch(x -> outcome(wind, x, b) == 0);
                if (rest && number++ == 0) first = 10 * (a + 1) + b + 1;
            }
        }
        return what == 0 ? number : first;
    }

    private int outcome(int wind, int a, int b) {
        World w = world.holding(0);
        if (a >= 0) w.cocks.get(a).held = true;
        if (b >= 0) w.cocks.get(b).held = true;
        return w.blow(winds.get(wind));
    }

    // ---- chances

    int frost(int wind, int x, boolean upper) {
        if (noWind(wind)) return UNKNOWN;
        if (x < 0 || x > 10) return OUTSIDE;
        BigInteger above = freeze(world, winds.get(wind), x, 0);
        BigInteger below = BigInteger.TEN.pow(world.cocks.size());
        BigInteger shared = above.gcd(below);
        return (upper ? above : below).divide(shared).intValueExact();
    }

    /** By cock from the given one on: frozen (HELD) in x of ten, not so in the others. */
    private BigInteger freeze(World from, Wind wind, int x, int cock) {
        if (cock == from.cocks.size()) return from.copy().blow(wind) == 0 ? BigInteger.ONE : BigInteger.ZERO;
        World frozen = from.copy();
        frozen.cocks.get(cock).held = true;
        return freeze(frozen, wind, x, cock + 1).multiply(BigInteger.valueOf(x))
                .add(freeze(from, wind, x, cock + 1).multiply(BigInteger.valueOf(10 - x)));
    }

    long seed(long v) {
        long was = seed.longValue();
        seed = BigInteger.valueOf(v).mod(BigInteger.TWO.pow(64));
        return was;
    }

    int years(int m) {
        if (m < 1 || m > 30) return OUTSIDE;
        List<Wind> year = new ArrayList<>();
        for (Wind w : winds) for (int i = 0; i < w.days; i++) year.add(w);
        if (year.isEmpty()) return 0;
        World then = world.copy();
        int own = 0;
        for (int day = 0; day < m; day++) {
            seed = seed.multiply(new BigInteger("6364136223846793005"))
                    .add(new BigInteger("1442695040888963407")).mod(BigInteger.TWO.pow(64));
            int drawn = seed.shiftRight(33).mod(BigInteger.valueOf(year.size())).intValue();
            if (then.blow(year.get(drawn)) == 0) own++;
        }
        return own;
    }

    // ---- slots

    int keep(int slot) {
        if (slot < 0 || slot > 1) return UNKNOWN;
        slots[slot] = world.copy();
        return world.days;
    }

    int again(int slot) {
        if (slot < 0 || slot > 1) return UNKNOWN;
        if (slots[slot] == null) return STATE;
        world = slots[slot].copy();
        row.clear();
        return world.days;
    }

    int count(int what) {
        if (what < 0 || what > 10) return OUTSIDE;
        int treeBits = 0;
        for (int i = 0; i < 10; i++) if (world.trees[i] > 0) treeBits |= 1 << i;
        return new int[] {
            text.length(), world.cocks.size(), winds.size(), world.brook, world.days, world.sum(0),
            world.sum(1), treeBits, world.heldBits(), row.size(), sights.size()
        }[what];
    }
}
