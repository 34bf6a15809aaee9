import java.util.Random;
import java.util.function.IntSupplier;

/**
 * "A call that throws or is refused changes nothing", nor does one that only asks: of two objects with the same
 * calls one gets such calls in between as well. What cannot be read (ticks left, the greatest sequence) shows in
 * the answers later on.
 */
public final class RefusedCallsTest {
    private static final int RUNS = 150;
    private static final int CALLS = 200;
    private static final int[] OUTSIDE = {Integer.MIN_VALUE, -7, -1, 6, 7, 42, 64, Integer.MAX_VALUE};

    private final Random random;
    private final AreaRouters plain = new AreaRouters();
    private final AreaRouters troubled = new AreaRouters();
    private final int[] levels = {1, 1, 1, 1, 1, 1};

    private RefusedCallsTest(int seed) {
        random = new Random(seed);
    }

    public static void main(String[] args) {
        for (int seed = 0; seed < RUNS; seed++) {
            new RefusedCallsTest(seed).run(seed);
        }
        Check.finish();
    }

    private void run(int seed) {
        for (int r = 0; r < 6; r++) {
            levels[r] = 1 + random.nextInt(3);
            int area = random.nextInt(2);
            plain.place(r, area, levels[r]);
            troubled.place(r, area, levels[r]);
        }
        for (int i = 0; i < CALLS; i++) {
            trouble();
            int[] call = nextCall();
            Check.same("run " + seed + ", call " + i, outcome(troubled, call), outcome(plain, call));
            if (i % 50 == 0) {
                compare("run " + seed + " at call " + i);
            }
        }
        compare("run " + seed);
    }

    private void compare(String what) {
        Check.yes(what + ": all as without them", Check.picture(plain).equals(Check.picture(troubled)));
    }

    private int[] nextCall() {
        int kind = random.nextInt(14);
        int r = random.nextInt(6);
        int c = random.nextInt(3);
        int l = 1 + random.nextInt(2);
        int meant = random.nextInt(4) == 0 ? random.nextInt(64) : 63;
        return new int[] {kind, r, c, l, meant, 1 + random.nextInt(3), random.nextInt(3)};
    }

    private static long outcome(AreaRouters x, int[] call) {
        try {
            return answer(x, call);
        } catch (IllegalStateException e) {
            return -100;
        } catch (IllegalArgumentException e) {
            return -200;
        }
    }

    private static int answer(AreaRouters x, int[] call) {
        int r = call[1];
        int c = call[2];
        switch (call[0]) {
            case 0:
                return x.attach(r, c, call[5], call[6]) ? 1 : 0;
            case 1:
            case 2:
            case 3:
                return x.hello(r, c, call[4]) + 8 * x.hello(r, (c + 1) % 3, call[4]);
            case 4:
            case 5:
                return x.describe(r);
            case 6:
            case 7:
            case 8:
            case 9:
                return x.spread(r, c, call[3], call[4]);
            case 10:
                return x.summary(r, c, call[3], call[4]);
            case 11:
                return x.request(r, c, call[3], call[4]);
            case 12:
                x.tick();
                return 0;
            default:
                return x.route(r, c) + 10000 * x.trace(c, r);
        }
    }

    private int outside() {
        return OUTSIDE[random.nextInt(OUTSIDE.length)];
    }

    private int any() {
        return random.nextInt(6);
    }

    private void trouble() {
        AreaRouters x = troubled;
        int r = any();
        int c = any();
        int out = outside();
        Check.no("place", x.place(out, random.nextInt(3), 1 + random.nextInt(3)));
        Check.no("place", x.place(r, random.nextBoolean() ? 3 : -1, 1 + random.nextInt(3)));
        Check.no("place", x.place(r, random.nextInt(3), random.nextBoolean() ? 4 : 0));
        Check.no("attach", x.attach(out, c, 5, 5));
        Check.no("attach", x.attach(r, out, 5, 5));
        Check.no("attach", x.attach(r, c, random.nextBoolean() ? 0 : 61, 5));
        Check.no("attach", x.attach(r, c, 5, random.nextBoolean() ? -1 : 101));
        throwsAt(IndexOutOfBoundsException.class, out, c, 1 + random.nextInt(2));
        throwsAt(IndexOutOfBoundsException.class, r, out, 1 + random.nextInt(2));
        Check.fails("describe", IndexOutOfBoundsException.class, () -> x.describe(out));
        troubleOfThisState(r, c);
        onlyAsk();
    }

    private void throwsAt(Class<?> want, int r, int c, int l) {
        AreaRouters x = troubled;
        IntSupplier hello = () -> x.hello(r, c, 63);
        if (want != IllegalArgumentException.class) {
            Check.fails("hello", want, hello);
        }
        Check.fails("spread", want, () -> x.spread(r, c, l, 63));
        Check.fails("summary", want, () -> x.summary(r, c, l, 63));
        Check.fails("request", want, () -> x.request(r, c, l, 63));
    }

    /** What is refused or throws because of who is attached where. */
    private void troubleOfThisState(int r, int c) {
        AreaRouters x = troubled;
        int attached = 0;
        for (int n = 0; n < 6; n++) {
            attached += isAttached(n, c) ? 1 : 0;
        }
        if (isAttached(r, c)) {
            Check.no("place of an attached one", x.place(r, random.nextInt(3), 1 + random.nextInt(3)));
            throwsAt(IllegalArgumentException.class, r, c, random.nextBoolean() ? 0 : 3);
            if (levels[r] != 3) {
                throwsAt(IllegalArgumentException.class, r, c, 3 - levels[r]);
            }
        } else {
            throwsAt(IllegalStateException.class, r, c, levels[r] == 3 ? 1 : levels[r]);
            throwsAt(IllegalStateException.class, r, c, outside());
            if (attached == 4) {
                Check.no("a fifth", x.attach(r, c, 5, 5));
            }
        }
    }

    private boolean isAttached(int r, int c) {
        return troubled.speaker(r, c, 1) >= 0 || troubled.speaker(r, c, 2) >= 0;
    }

    private void onlyAsk() {
        AreaRouters x = troubled;
        for (int i = 0; i < 3; i++) {
            int a = i == 0 ? outside() : any();
            int b = i == 1 ? outside() : any();
            int l = i == 2 ? outside() : 1 + random.nextInt(2);
            x.neighbour(a, b, l, any());
            x.neighbour(any(), a, l, b);
            x.speaker(a, b, l);
            x.description(a, l, 7 * any() + b, any());
            x.description(any(), 1, b, outside());
            x.marks(a, l, 7 * any() + b);
            x.route(a, b);
            x.trace(a, b);
            x.route(any(), any());
            x.trace(any(), any());
        }
    }
}
