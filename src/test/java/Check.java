import java.util.function.IntSupplier;

/** What the tests share: counting wrong answers, and the runs of calls that many of them begin with. */
final class Check {
    private static int wrong = 0;

    private Check() {
    }

    static void same(String what, long got, long want) {
        if (got != want) {
            wrong++;
            System.out.println(what + " answered " + got + ", due is " + want);
        }
    }

    static void yes(String what, boolean got) {
        same(what, got ? 1 : 0, 1);
    }

    static void no(String what, boolean got) {
        same(what, got ? 1 : 0, 0);
    }

    static void fails(String what, Class<?> want, IntSupplier call) {
        String got = "answer " + 0;
        try {
            got = "answer " + call.getAsInt();
        } catch (RuntimeException e) {
            if (e.getClass() == want) {
                return;
            }
            got = e.getClass().getName();
        }
        wrong++;
        System.out.println(what + " gave " + got + ", due is " + want.getName());
    }

    /** Whether a call answers or what it throws: "answers", or the name of the exception. */
    static void kind(String what, IntSupplier call, String want) {
        String got = "answers";
        try {
            call.getAsInt();
        } catch (RuntimeException e) {
            got = e.getClass().getSimpleName();
        }
        if (!got.equals(want)) {
            wrong++;
            System.out.println(what + ": " + got + ", due is " + want);
        }
    }

    static void finish() {
        System.out.println(wrong == 0 ? "all answers are as due" : wrong + " answers are not as due");
        if (wrong != 0) {
            System.exit(1);
        }
    }

    /** All of them hear all others on c, and know it. */
    static void greet(AreaRouters x, int c, int... routers) {
        for (int round = 0; round < 2; round++) {
            for (int r : routers) {
                x.hello(r, c, 63);
            }
        }
    }

    static void ticks(AreaRouters x, int count) {
        for (int i = 0; i < count; i++) {
            x.tick();
        }
    }

    /** Two routers of area 0 and level 1, neighbours on circuit 0, which only they share. */
    static AreaRouters pair() {
        AreaRouters x = new AreaRouters();
        x.attach(0, 0, 10, 0);
        x.attach(1, 0, 20, 0);
        greet(x, 0, 0, 1);
        return x;
    }

    /** Three routers of area 0 and level 1, neighbours on circuit 2; router 2 speaks. */
    static AreaRouters trio() {
        AreaRouters x = new AreaRouters();
        x.attach(0, 2, 3, 5);
        x.attach(1, 2, 4, 5);
        x.attach(2, 2, 5, 9);
        greet(x, 2, 0, 1, 2);
        return x;
    }

    /** All that can be read of an object, as one text. */
    static String picture(AreaRouters x) {
        StringBuilder text = new StringBuilder();
        for (int r = 0; r < 6; r++) {
            for (int l = 1; l <= 2; l++) {
                for (int c = 0; c < 6; c++) {
                    text.append(x.speaker(r, c, l)).append(' ');
                    for (int n = 0; n < 6; n++) {
                        text.append(x.neighbour(r, c, l, n) ? 'y' : 'n');
                    }
                }
                for (int name = 0; name < 42; name++) {
                    text.append(x.marks(r, l, name)).append(' ');
                    for (int what = 0; what < 16; what++) {
                        text.append(x.description(r, l, name, what)).append(' ');
                    }
                }
            }
            for (int d = 0; d < 6; d++) {
                text.append(x.route(r, d)).append(' ').append(x.trace(r, d)).append(' ');
            }
            text.append('\n');
        }
        return text.toString();
    }
}
