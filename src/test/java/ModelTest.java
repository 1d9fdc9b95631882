import java.util.Random;

/** Random runs, and all divisors of small widths, held against the model of the document. */
public final class ModelTest {
    private static final int[] WIDTHS = {8, 16, 32, 64};
    private static int wrong = 0;

    private final Random random;
    private final DivideSmith smith = new DivideSmith();
    private final ModelSmith model = new ModelSmith();
    private final String run;
    private final StringBuilder told = new StringBuilder();

    private ModelTest(String run, long seed) {
        this.run = run;
        random = new Random(seed);
    }

    private void due(String call, long got, long want) {
        told.append("  ").append(call).append(" = ").append(want).append('\n');
        if (got != want) {
            wrong++;
            System.out.println(run + ": " + call + " answered " + got + ", due is " + want);
            if (wrong == 1) System.out.println("the run was:\n" + told);
        }
    }

    private int pick(int... of) {
        return of[random.nextInt(of.length)];
    }

    private int around(int low, int high) {
        return random.nextInt(20) == 0 ? pick(low - 1, high + 1, Integer.MIN_VALUE, Integer.MAX_VALUE)
            : low + random.nextInt(high - low + 1);
    }

    private int width() {
        return random.nextInt(25) == 0 ? pick(0, -8, 7, 24, 128) : WIDTHS[random.nextInt(4)];
    }

    private long number() {
        switch (random.nextInt(9)) {
            case 0: return random.nextLong();
            case 1: return 1L << random.nextInt(64);
            case 2: return -(1L << random.nextInt(64));
            case 3: return (1L << random.nextInt(64)) - 1;
            case 4: return (1L << random.nextInt(64)) + 1;
            case 5: return random.nextLong() >> random.nextInt(64);
            case 6: return -1 - random.nextInt(20);
            default: return random.nextInt(300);
        }
    }

    private int form() {
        int there = model.count(0);
        return there == 0 || random.nextInt(25) == 0 ? pick(-1, there, 60, Integer.MAX_VALUE) : random.nextInt(there);
    }

    private int step(int f) {
        int there = Math.max(model.steps(f), 0);
        return random.nextInt(12) == 0 ? pick(-1, there, there + 1, 12) : there == 0 ? 0 : random.nextInt(there);
    }

    private void call(boolean slow) {
        switch (random.nextInt(slow ? 26 : 25)) {
            case 0: { int w = width(); due("form(" + w + ")", smith.form(w), model.form(w)); break; }
            case 1: case 2: case 3: addStep(); break;
            case 4: case 5: {
                int w = width(), s = around(0, 1), i = around(0, 5);
                long d = number();
                due("make(" + w + ", " + s + ", " + i + ", " + d + ")", smith.make(w, s, i, d), model.make(w, s, i, d));
                allTold(model.count(0) - 1);
                break;
            }
            case 6: if (random.nextInt(3) == 0) due("drop()", smith.drop(), model.drop()); break;
            case 7: { int f = form(); due("steps(" + f + ")", smith.steps(f), model.steps(f)); break; }
            case 8: { int f = form(), k = step(f), w = around(0, 2);
                due("told(" + f + ", " + k + ", " + w + ")", smith.told(f, k, w), model.told(f, k, w)); break; }
            case 9: { int f = form(); due("width(" + f + ")", smith.width(f), model.width(f)); break; }
            case 10: { int f = form(); due("cost(" + f + ")", smith.cost(f), model.cost(f)); break; }
            case 11: { int k = around(0, 12), c = around(1, 50);
                due("price(" + k + ", " + c + ")", smith.price(k, c), model.price(k, c)); break; }
            case 12: { int f = form(); long n = number();
                due("run(" + f + ", " + n + ")", smith.run(f, n), model.run(f, n)); break; }
            case 13: { int f = form(), k = step(f); long n = number();
                due("end(" + f + ", " + n + ", " + k + ")", smith.end(f, n, k), model.end(f, n, k)); break; }
            case 14: fails(slow); break;
            case 15: { int w = width(), s = around(0, 1), i = around(0, 5); long d = number(), n = number();
                due("plain(" + w + ", " + s + ", " + i + ", " + d + ", " + n + ")",
                    smith.plain(w, s, i, d, n), model.plain(w, s, i, d, n)); break; }
            case 16: proofs(); break;
            case 17: { int w = width(); long d = number() | random.nextInt(2);
                due("inverse(" + w + ", " + d + ")", smith.inverse(w, d), model.inverse(w, d)); break; }
            case 18: { int p = around(0, 3); long v = number();
                due("tell(" + p + ", " + v + ")", smith.tell(p, v), model.tell(p, v)); break; }
            case 19: { int w = around(0, 2); due("count(" + w + ")", smith.count(w), model.count(w)); break; }
            case 20: if (random.nextInt(2) == 0) due("undo()", smith.undo(), model.undo()); break;
            case 21: case 22: { int h = around(0, 7), kind = around(0, 5), f = form(), k = step(f);
                due("hook(" + h + ", " + kind + ", " + f + ", " + k + ")", smith.hook(h, kind, f, k),
                    model.hook(h, kind, f, k)); break; }
            case 23: { int h = around(0, 7); due("held(" + h + ")", smith.held(h), model.held(h)); break; }
            case 24: useHook(); break;
            default: least(); break;
        }
    }

    private void addStep() {
        int f = form();
        int kind = around(0, 12);
        int there = Math.max(model.steps(f), 0);
        int x = around(0, there);
        long y = ModelSmith.takesOperand(kind) ? around(0, there)
            : ModelSmith.takesCount(kind) ? around(0, Math.max(model.width(f), 8) - 1) : number();
        if (random.nextInt(20) == 0) y = number();
        due("step(" + f + ", " + kind + ", " + x + ", " + y + ")", smith.step(f, kind, x, y), model.step(f, kind, x, y));
    }

    private void allTold(int f) {
        due("steps(" + f + ")", smith.steps(f), model.steps(f));
        for (int k = 0; k < model.steps(f); k++) {
            for (int w = 0; w < 3; w++) {
                due("told(" + f + ", " + k + ", " + w + ")", smith.told(f, k, w), model.told(f, k, w));
            }
        }
    }

    private void fails(boolean slow) {
        int f = form(), s = around(0, 1), i = around(0, 5);
        long d = number();
        if (model.width(f) == 16 && !slow) return;
        due("fails(" + f + ", " + s + ", " + i + ", " + d + ")", smith.fails(f, s, i, d), model.fails(f, s, i, d));
    }

    private void proofs() {
        int w = width();
        long d = number();
        for (int what = -1; what < 5; what++) {
            due("proof(" + w + ", " + d + ", " + what + ")", smith.proof(w, d, what), model.proof(w, d, what));
        }
        int s = (int) model.proof(w, d, 0) + pick(0, 0, 0, 1, -1);
        long m = model.proof(w, d, 1) + pick(0, 0, 0, 1, -1);
        int over = (int) model.proof(w, d, 2) + pick(0, 0, 0, 0, 1, -1);
        due("check(" + w + ", " + d + ", " + s + ", " + m + ", " + over + ")",
            smith.check(w, d, s, m, over), model.check(w, d, s, m, over));
        int t = around(0, 64);
        due("check(" + w + ", " + d + ", " + t + ", " + m + ", " + over + ")",
            smith.check(w, d, t, m, over), model.check(w, d, t, m, over));
    }

    private void useHook() {
        for (int i = 0; i < 4; i++) {
            int h = around(0, 7);
            int how = around(0, 10);
            if (random.nextInt(2) == 0) {
                int[] fit = {pick(10), pick(0, 1), pick(2, 6, 7, 9), pick(3, 8), 4, 5};
                how = fit[Math.max(model.held(h), 0)];
            }
            int x = how == 9 ? pick(-1, 0, 1, 3, 12, 100, 101, Integer.MIN_VALUE) : around(0, 3);
            int y = how == 6 ? (int) number() : around(0, 3);
            due("use(" + h + ", " + how + ", " + x + ", " + y + ")", smith.use(h, how, x, y), model.use(h, how, x, y));
        }
    }

    private void least() {
        for (int p = 0; p < 4 && random.nextInt(3) > 0; p++) {
            long v = pick(0, 1, 2, 3, 7, 128, 171, 205, 255, 127, 85, 86, random.nextInt());
            due("tell(" + p + ", " + v + ")", smith.tell(p, v), model.tell(p, v));
        }
        int s = around(0, 1), i = around(0, 5), most = around(1, 3);
        long d = random.nextInt(4) == 0 ? number() : pick(1, 2, 3, 4, 5, 8, 16, 64, 128, 255, -1, -2, 200, 100);
        due("least(" + s + ", " + i + ", " + d + ", " + most + ")", smith.least(s, i, d, most), model.least(s, i, d, most));
        allTold(model.count(0) - 1);
        due("count(2)", smith.count(2), model.count(2));
    }

    private static void randomRuns() {
        for (int seed = 0; seed < 400; seed++) {
            ModelTest test = new ModelTest("seed " + seed, seed);
            for (int i = 0; i < 300; i++) test.call(seed % 10 == 0);
        }
    }

    /** Every asking of width 8, each form compared with the model's and tried on all numbers. */
    private static void allDivisorsOfWidth8() {
        for (int signed = 0; signed < 2; signed++) {
            for (int wish = 0; wish < 6; wish++) {
                for (int d = 0; d < 256; d++) {
                    ModelTest t = new ModelTest("width 8", 0);
                    String call = "8, " + signed + ", " + wish + ", " + d;
                    int made = t.smith.make(8, signed, wish, d);
                    t.due("make(" + call + ")", made, t.model.make(8, signed, wish, d));
                    if (made < 0) continue;
                    t.allTold(0);
                    t.due("fails(make(" + call + "))", t.smith.fails(0, signed, wish, d), -3);
                    for (int n = 0; n < 256; n++) {
                        t.due("plain(" + call + ", " + n + ")", t.smith.plain(8, signed, wish, d, n),
                            t.model.plain(8, signed, wish, d, n));
                    }
                }
            }
        }
    }

    private static void manyDivisors() {
        Random random = new Random(7);
        for (int i = 0; i < 6000; i++) {
            ModelTest t = new ModelTest("divisor " + i, i);
            int w = WIDTHS[random.nextInt(4)], signed = random.nextInt(2), wish = random.nextInt(6);
            long d = t.number();
            String call = w + ", " + signed + ", " + wish + ", " + d;
            int made = t.smith.make(w, signed, wish, d);
            t.due("make(" + call + ")", made, t.model.make(w, signed, wish, d));
            if (made < 0) continue;
            t.allTold(0);
            for (int j = 0; j < 20; j++) {
                long n = t.number();
                if (wish == 5) n = d * (t.number() % 100);
                if (!ModelSmith.asksOf(w, signed, wish, d, java.math.BigInteger.valueOf(n))) continue;
                t.due("run(make(" + call + "), " + n + ")", t.smith.run(0, n), t.model.plain(w, signed, wish, d, n));
            }
            if (w == 16 && i % 8 == 0) t.due("fails(make(" + call + "))", t.smith.fails(0, signed, wish, d), -3);
        }
    }

    public static void main(String[] args) {
        allDivisorsOfWidth8();
        manyDivisors();
        randomRuns();
        System.out.println(wrong == 0 ? "all answers are the model's" : wrong + " answers are not the model's");
        if (wrong != 0) System.exit(1);
    }
}
