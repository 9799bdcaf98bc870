import java.util.Random;
import java.util.function.LongSupplier;

/** Runs of 512 calls by chance (the same ones each time), each answer held against PlainModel's. */
public final class ModelTest {
    private static final int RUNS = 2000, CALLS = 512;
    private static int wrong = 0;

    private final Random chance;
    private final CockWar real = new CockWar();
    private final PlainModel model = new PlainModel();
    private final StringBuilder told = new StringBuilder();
    private final int run;
    private int calls = 0;
    private boolean failed = false;

    private ModelTest(int run) {
        this.run = run;
        chance = new Random(run);
    }

    public static void main(String[] args) {
        for (int run = 0; run < RUNS && wrong < 5; run++) new ModelTest(run).go();
        System.out.println(RUNS + " runs against the model, " + wrong + " wrong");
        if (wrong != 0) System.exit(1);
    }

    private void go() {
        while (calls < CALLS && !failed) step();
    }

    /** What an object answers behind its 512th call is free: it is not called then. */
    private void due(String call, LongSupplier asked, LongSupplier wanted) {
        if (failed || calls == CALLS) return;
        calls++;
        long got = asked.getAsLong(), want = wanted.getAsLong();
        told.append(call).append(' ');
        if (got != want) {
            failed = true;
            wrong++;
            System.out.println("run " + run + ": " + told + "answered " + got + ", the model " + want);
        }
    }

    /** Mostly 0 to most, sometimes a little beside it, seldom far away. */
    private int arg(int most) {
        int dice = chance.nextInt(40);
        if (dice == 0) return chance.nextBoolean() ? Integer.MAX_VALUE : Integer.MIN_VALUE;
        if (dice < 3) return chance.nextInt(most + 5) - 2;
        return chance.nextInt(most + 1);
    }

    private static char figure(int number) {
        return (char) ('0' + number);
    }

    private String part() {
        StringBuilder s = new StringBuilder();
        int kind = chance.nextInt(7);
        if (kind < 3) {
            s.append('C').append(figure(chance.nextInt(10))).append(figure(chance.nextInt(2)));
            s.append(figure(chance.nextInt(4))).append(figure(chance.nextInt(5)));
            int weight = chance.nextBoolean() ? 1 + chance.nextInt(3) : 1 + chance.nextInt(9);
            s.append(figure(weight)).append(figure(chance.nextInt(2)));
        } else if (kind < 5) {
            s.append('T').append(figure(chance.nextInt(10))).append(figure(1 + chance.nextInt(3)));
        } else {
            s.append('W').append(figure(chance.nextInt(2))).append(figure(chance.nextInt(6)));
            s.append(figure(1 + chance.nextInt(9)));
        }
        return s.toString();
    }

    /** Parts of which each leaves the text a hill; now and then one letter is spoilt. */
    private String text() {
        StringBuilder s = new StringBuilder("H");
        int most = chance.nextInt(65);
        for (int tries = 0; tries < 60; tries++) {
            String part = part();
            boolean taken = PlainModel.isHill(s + part) || chance.nextInt(60) == 0;
            if (taken && s.length() + part.length() <= most) s.append(part);
        }
        if (chance.nextInt(4) == 0) {
            int spoilt = chance.nextInt(s.length());
            s.setCharAt(spoilt, "0123456789HTCWhtcw:/\0".charAt(chance.nextInt(21)));
        }
        if (chance.nextInt(6) == 0) s.setLength(chance.nextInt(s.length() + 1));
        return s.toString();
    }

    private void newHill() {
        due("wipe()", real::wipe, model::wipe);
        for (char c : text().toCharArray()) due("write(" + (int) c + ")", () -> real.write(c), () -> model.write(c));
        due("fault()", real::fault, model::fault);
        due("hill()", real::hill, model::hill);
    }

    private void step() {
        int dice = chance.nextInt(44);
        if (calls == 0 || chance.nextInt(70) == 0) newHill();
        else if (dice < 14) act(dice);
        else if (dice < 34) ask(dice);
        else other(dice);
        for (int what = 3; what <= 9 && chance.nextInt(3) == 0; what++) count(what);
    }

    private void act(int dice) {
        int cock = arg(5), cell = arg(9), wind = arg(3);
        switch (dice) {
            case 0: case 1: case 2: case 3:
                due("blow(" + wind + ")", () -> real.blow(wind), () -> model.blow(wind)); break;
            case 4: due("fell(" + cell + ")", () -> real.fell(cell), () -> model.fell(cell)); break;
            case 5: case 6:
                due("move(" + cock + "," + cell + ")", () -> real.move(cock, cell), () -> model.move(cock, cell)); break;
            case 7: due("grease(" + cock + ")", () -> real.grease(cock), () -> model.grease(cock)); break;
            case 8: case 9:
                due("capture(" + cock + ")", () -> real.capture(cock), () -> model.capture(cock)); break;
            case 10: case 11: case 12:
                due("hold(" + cock + ")", () -> real.hold(cock), () -> model.hold(cock)); break;
            default:
                for (int n = chance.nextInt(5); n >= 0; n--) due("undo()", real::undo, model::undo);
        }
    }

    private void ask(int dice) {
        int cock = arg(5), wind = arg(3), parish = arg(1), what = arg(3), x = arg(10);
        switch (dice) {
            case 14: due("under(" + wind + ")", () -> real.under(wind), () -> model.under(wind)); break;
            case 15: due("year(" + parish + ")", () -> real.year(parish), () -> model.year(parish)); break;
            case 16: case 17:
                due("placing(" + parish + "," + what + ")", () -> real.placing(parish, what),
                        () -> model.placing(parish, what));
                break;
            case 18: case 19:
                due("trees(" + parish + "," + wind + ")", () -> real.trees(parish, wind), () -> model.trees(parish, wind));
                break;
            case 20: case 21: due("decides(" + wind + ")", () -> real.decides(wind), () -> model.decides(wind)); break;
            case 22: due("power(" + cock + ")", () -> real.power(cock), () -> model.power(cock)); break;
            case 23: case 24: judge(); break;
            case 25: case 26:
                due("strings(" + wind + "," + what + ")", () -> real.strings(wind, what), () -> model.strings(wind, what));
                break;
            case 27: due("winds()", real::winds, model::winds); break;
            case 28: case 29: {
                int which = arg(1);
                due("rests(" + wind + "," + which + ")", () -> real.rests(wind, which), () -> model.rests(wind, which));
                break;
            }
            case 30: case 31: {
                boolean upper = chance.nextBoolean();
                due("frost(" + wind + "," + x + "," + upper + ")", () -> real.frost(wind, x, upper),
                        () -> model.frost(wind, x, upper));
                break;
            }
            default: {
                int m = 1 + arg(29);
                due("years(" + m + ")", () -> real.years(m), () -> model.years(m));
            }
        }
    }

    private void count(int what) {
        due("count(" + what + ")", () -> real.count(what), () -> model.count(what));
    }

    private void judge() {
        int n = chance.nextInt(12) == 0 ? arg(6) : 1 + chance.nextInt(6);
        int row = row(n);
        due("judge(" + n + "," + row + ")", () -> real.judge(n, row), () -> model.judge(n, row));
    }

    /** Mostly n figures of winds that there are. */
    private int row(int n) {
        int row = 0;
        for (int i = 0; i < n && i < 7; i++) row = 10 * row + Math.max(0, Math.min(9, arg(3)));
        if (chance.nextInt(12) == 0) row = row * 10 + 1;
        return chance.nextInt(20) == 0 ? -row : row;
    }

    private void other(int dice) {
        int cock = arg(5), cell = arg(9), wind = arg(3), points = arg(1), slot = arg(1);
        switch (dice) {
            case 34: due("tree(" + cell + ")", () -> real.tree(cell), () -> model.tree(cell)); break;
            case 35: case 36: {
                int what = arg(6);
                due("cock(" + cock + "," + what + ")", () -> real.cock(cock, what), () -> model.cock(cock, what));
                break;
            }
            case 37: {
                int what = arg(3);
                due("wind(" + wind + "," + what + ")", () -> real.wind(wind, what), () -> model.wind(wind, what));
                break;
            }
            case 38: case 39:
                due("see(" + cock + "," + points + ")", () -> real.see(cock, points), () -> model.see(cock, points));
                break;
            case 40:
                if (chance.nextInt(3) == 0) due("unsee()", real::unsee, model::unsee);
                break;
            case 41: {
                long v = chance.nextLong();
                if (chance.nextInt(3) == 0) due("seed(" + v + ")", () -> real.seed(v), () -> model.seed(v));
                break;
            }
            case 42:
                if (chance.nextBoolean()) due("keep(" + slot + ")", () -> real.keep(slot), () -> model.keep(slot));
                else due("again(" + slot + ")", () -> real.again(slot), () -> model.again(slot));
                break;
            default: count(arg(10));
        }
    }
}
