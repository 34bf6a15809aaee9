import java.util.Random;
import java.util.function.IntSupplier;

/** Long runs of calls, the same each time, on the class and on the model; every answer must be the same. */
public final class ModelTest {
    private static final int RUNS = 400;
    private static final int CALLS = 400;
    private static final int[] ODD = {Integer.MIN_VALUE, -64, -1, 6, 7, 42, 64, 101, Integer.MAX_VALUE};

    private final Random random;
    private final AreaRouters real = new AreaRouters();
    private final PlainModel model = new PlainModel();
    private final StringBuilder told = new StringBuilder();
    private final int circuits;
    private boolean same = true;

    private ModelTest(int seed) {
        random = new Random(seed);
        circuits = 1 + random.nextInt(6);
    }

    public static void main(String[] args) {
        for (int seed = 0; seed < RUNS; seed++) {
            ModelTest run = new ModelTest(seed);
            run.start(seed);
            for (int i = 0; i < CALLS && run.same; i++) {
                run.step();
            }
            Check.yes("run with seed " + seed + "\n" + (run.same ? "" : run.told), run.same);
            if (!run.same) {
                break;
            }
        }
        Check.finish();
    }

    private static String outcome(IntSupplier call) {
        try {
            return "" + call.getAsInt();
        } catch (RuntimeException e) {
            return e.getClass().getName();
        }
    }

    private void both(String call, IntSupplier onReal, IntSupplier onModel) {
        String got = outcome(onReal);
        String due = outcome(onModel);
        told.append(call).append(": ").append(got).append('\n');
        if (!got.equals(due)) {
            told.append("    due is ").append(due).append('\n');
            same = false;
        }
    }

    private int pick(int below) {
        return random.nextInt(400) == 0 ? ODD[random.nextInt(ODD.length)] : random.nextInt(below);
    }

    private int level() {
        return random.nextInt(400) == 0 ? random.nextInt(6) - 1 : 1 + random.nextInt(2);
    }

    private int meant() {
        return random.nextInt(3) > 0 ? 63 : random.nextInt(64);
    }

    private void start(int seed) {
        if (seed % 3 != 0) {
            for (int r = 0; r < 6; r++) {
                place(r, random.nextInt(seed % 3 == 1 ? 2 : 3), 1 + random.nextInt(3));
            }
        }
        for (int i = 0; i < 4 + random.nextInt(12); i++) {
            attach();
        }
        for (int i = 0; i < 2; i++) {
            helloAll();
        }
    }

    private void place(int r, int area, int levels) {
        both("place(" + r + ", " + area + ", " + levels + ")",
            () -> real.place(r, area, levels) ? 1 : 0, () -> model.place(r, area, levels) ? 1 : 0);
    }

    private void attach() {
        int r = pick(6);
        int c = pick(circuits);
        int metric = random.nextInt(40) == 0 ? pick(63) : 1 + pick(4);
        int priority = random.nextInt(40) == 0 ? pick(103) : pick(3);
        both("attach(" + r + ", " + c + ", " + metric + ", " + priority + ")",
            () -> real.attach(r, c, metric, priority) ? 1 : 0, () -> model.attach(r, c, metric, priority) ? 1 : 0);
    }

    private void hello(int r, int c, int meant) {
        both("hello(" + r + ", " + c + ", " + meant + ")",
            () -> real.hello(r, c, meant), () -> model.hello(r, c, meant));
    }

    private void helloAll() {
        int kept = random.nextInt(10);
        for (int r = 0; r < 6; r++) {
            for (int c = 0; c < circuits; c++) {
                if (kept != r && model.speaker(r, c, 1) + model.speaker(r, c, 2) > -2) {
                    hello(r, c, 63);
                }
            }
        }
    }

    private void describe(int r) {
        both("describe(" + r + ")", () -> real.describe(r), () -> model.describe(r));
    }

    private void tick() {
        told.append("tick()\n");
        real.tick();
        model.tick();
    }

    private void step() {
        int kind = random.nextInt(100);
        if (kind < 2) {
            place(pick(6), random.nextInt(6) - 1, random.nextInt(6) - 1);
        } else if (kind < 4) {
            attach();
        } else if (kind < 6) {
            helloAll();
            if (random.nextInt(4) == 0) {
                settle();
            }
        } else if (kind < 20) {
            hello(pick(6), pick(circuits), meant());
        } else if (kind < 32) {
            describe(pick(6));
        } else if (kind < 42) {
            tick();
            if (random.nextInt(40) == 0) {
                for (int i = 0; i < 12; i++) {
                    tick();
                }
            }
        } else if (kind < 90) {
            send(kind);
        } else {
            ask();
        }
        compareAll();
    }

    private void send(int kind) {
        int r = pick(6);
        int c = pick(circuits);
        int l = level();
        int meant = meant();
        String arguments = "(" + r + ", " + c + ", " + l + ", " + meant + ")";
        if (kind < 70) {
            both("spread" + arguments, () -> real.spread(r, c, l, meant), () -> model.spread(r, c, l, meant));
        } else if (kind < 80) {
            both("summary" + arguments, () -> real.summary(r, c, l, meant), () -> model.summary(r, c, l, meant));
        } else {
            both("request" + arguments, () -> real.request(r, c, l, meant), () -> model.request(r, c, l, meant));
        }
    }

    /** All describe, and what is due goes all the way. */
    private void settle() {
        helloAll();
        for (int r = 0; r < 6; r++) {
            describe(r);
        }
        for (int round = 0; round < 3; round++) {
            for (int i = 0; i < 6 * circuits * 2; i++) {
                int r = i % 6;
                int c = i / 6 % circuits;
                int l = 1 + i / 6 / circuits;
                if (model.speaker(r, c, l) >= 0) {
                    both("spread(" + r + ", " + c + ", " + l + ", 63)",
                        () -> real.spread(r, c, l, 63), () -> model.spread(r, c, l, 63));
                }
            }
        }
        for (int r = 0; r < 6; r++) {
            compareRoutes(r);
        }
    }

    private void ask() {
        int a = pick(6);
        int b = pick(6);
        int l = level();
        int n = pick(6);
        int name = pick(42);
        int what = pick(12);
        both("neighbour(" + a + ", " + b + ", " + l + ", " + n + ")",
            () -> real.neighbour(a, b, l, n) ? 1 : 0, () -> model.neighbour(a, b, l, n) ? 1 : 0);
        both("speaker(" + a + ", " + b + ", " + l + ")",
            () -> real.speaker(a, b, l), () -> model.speaker(a, b, l));
        both("description(" + a + ", " + l + ", " + name + ", " + what + ")",
            () -> real.description(a, l, name, what), () -> model.description(a, l, name, what));
        both("marks(" + a + ", " + l + ", " + name + ")",
            () -> real.marks(a, l, name), () -> model.marks(a, l, name));
        both("route(" + a + ", " + b + ")", () -> real.route(a, b), () -> model.route(a, b));
        both("trace(" + a + ", " + b + ")", () -> real.trace(a, b), () -> model.trace(a, b));
    }

    /** The readable state of the router that a call may have changed, one router at a time. */
    private void compareAll() {
        int r = random.nextInt(6);
        for (int l = 1; l <= 2; l++) {
            for (int name = 0; name < 42; name++) {
                compareName(r, l, name);
            }
        }
        compareRoutes(r);
    }

    private void compareRoutes(int r) {
        for (int d = 0; d < 6; d++) {
            int to = d;
            if (real.route(r, d) != model.route(r, d) || real.trace(r, d) != model.trace(r, d)) {
                both("route(" + r + ", " + d + ")", () -> real.route(r, to), () -> model.route(r, to));
                both("trace(" + r + ", " + d + ")", () -> real.trace(r, to), () -> model.trace(r, to));
            }
        }
    }

    private void compareName(int r, int l, int name) {
        if (real.marks(r, l, name) != model.marks(r, l, name)) {
            both("marks(" + r + ", " + l + ", " + name + ")",
                () -> real.marks(r, l, name), () -> model.marks(r, l, name));
        }
        for (int what = 0; what < 13; what++) {
            int k = what;
            if (real.description(r, l, name, what) != model.description(r, l, name, what)) {
                both("description(" + r + ", " + l + ", " + name + ", " + what + ")",
                    () -> real.description(r, l, name, k), () -> model.description(r, l, name, k));
            }
        }
    }
}
