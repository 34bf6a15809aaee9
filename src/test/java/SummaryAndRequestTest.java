/** Promises 6 and 7: summary, request. */
public final class SummaryAndRequestTest {
    public static void main(String[] args) {
        summaryTells();
        summaryOfDead();
        requestAcknowledges();
        requestForNone();
        onlyFromNeighbours();
        wrongInputs();
        Check.finish();
    }

    private static void summaryTells() {
        AreaRouters x = Check.pair();
        Check.same("empty base", x.summary(0, 0, 1, 63), 0);
        x.describe(0);
        x.describe(1);
        Check.same("one name", x.summary(0, 0, 1, 63), 1);
        Check.same("1 has none: asked", x.marks(1, 1, 0), 64);
        Check.same("1's own was not told: due", x.marks(1, 1, 7), 1);
        Check.same("0's marks stay", x.marks(0, 1, 0), 1);
        Check.same("no description by this", x.description(1, 1, 0, 0), -1);
        x.spread(0, 0, 1, 63);
        x.summary(1, 0, 1, 63);
        Check.same("the same: not due", x.marks(0, 1, 0), 0);
        Check.same("0 asks for 1's", x.marks(0, 1, 7), 64);
        x.attach(0, 0, 11, 0);
        x.describe(0);
        x.request(1, 0, 1, 63);
        Check.same("newer than told: due", x.marks(0, 1, 0), 1);
        x.summary(0, 0, 1, 63);
        Check.same("older than told: asked", x.marks(1, 1, 0), 64);
        AreaRouters y = Check.trio();
        y.describe(0);
        y.describe(2);
        y.spread(0, 2, 1, 4);
        Check.same("three names, nobody meant", y.summary(2, 2, 1, 0), 3);
        Check.same("nothing noted", y.marks(1, 1, 0) + y.marks(1, 1, 14) + y.marks(1, 1, 17), 0);
        Check.same("three names, one meant", y.summary(2, 2, 1, 2), 3);
        Check.same("all asked", y.marks(1, 1, 0) + y.marks(1, 1, 14) + y.marks(1, 1, 17), 3 * 64 * 4);
        Check.same("0 not", y.marks(0, 1, 14), 0);
    }

    private static void summaryOfDead() {
        AreaRouters x = Check.trio();
        x.describe(2);
        x.spread(2, 2, 1, 1);
        x.attach(2, 2, 5, 0);
        x.describe(2);
        x.spread(2, 2, 1, 0);
        Check.same("dead ones are told", x.summary(2, 2, 1, 3), 2);
        Check.same("0 asks for the dead", x.marks(0, 1, 17), 64 * 4);
        Check.same("1 asks for the dead", x.marks(1, 1, 17), 64 * 4);
        x.summary(1, 2, 1, 4);
        Check.same("itself alive, not told: due", x.marks(2, 1, 14), 4);
        Check.same("dead, not told: not due", x.marks(2, 1, 17), 0);
        x.summary(0, 2, 1, 4);
        Check.same("dead, told alive: newer", x.marks(2, 1, 17), 4);
    }

    private static void requestAcknowledges() {
        AreaRouters x = Check.pair();
        x.describe(0);
        Check.same("nothing asked", x.request(1, 0, 1, 63), 0);
        x.spread(0, 0, 1, 63);
        Check.same("one asked, nobody meant", x.request(1, 0, 1, 0), 1);
        Check.same("asked no more", x.marks(1, 1, 0), 0);
        Check.same("not received: still due", x.marks(0, 1, 0), 1);
        x.spread(0, 0, 1, 63);
        Check.same("asked again", x.request(1, 0, 1, 63), 1);
        Check.same("received: not due", x.marks(0, 1, 0), 0);
        Check.same("none asked", x.request(1, 0, 1, 63), 0);
        x.describe(1);
        Check.same("a request leaves what it does not tell", x.request(0, 0, 1, 63), 0);
        x.spread(1, 0, 1, 63);
        x.summary(1, 0, 1, 63);
        x.request(0, 0, 1, 63);
        Check.same("1's not due", x.marks(1, 1, 7), 0);
    }

    private static void requestForNone() {
        AreaRouters x = Check.trio();
        x.describe(0);
        x.spread(0, 2, 1, 0);
        x.summary(0, 2, 1, 2);
        Check.same("1 asks", x.marks(1, 1, 0), 64 * 4);
        Check.same("asks all", x.request(1, 2, 1, 63), 1);
        Check.same("0 has it: due", x.marks(0, 1, 0), 4);
        Check.same("2 has none and nothing was told", x.marks(2, 1, 0), 0);
        Check.same("1 asks no more", x.marks(1, 1, 0), 0);
        x.spread(0, 2, 1, 63);
        Check.same("1 has it", x.description(1, 1, 0, 0), 1);
        AreaRouters y = Check.pair();
        y.attach(0, 1, 1, 0);
        y.attach(2, 1, 1, 0);
        Check.greet(y, 1, 0, 2);
        y.describe(2);
        y.spread(2, 1, 1, 63);
        y.request(0, 1, 1, 63);
        y.summary(0, 0, 1, 63);
        Check.same("asked of a name that 1 has not", y.marks(1, 1, 14), 64);
        Check.ticks(y, 1);
        Check.same("a tick leaves it", y.marks(1, 1, 14), 64);
        Check.same("told with sequence 0", y.request(1, 0, 1, 63), 1);
        Check.same("due at 0", y.marks(0, 1, 14), 1);
    }

    private static void onlyFromNeighbours() {
        AreaRouters x = new AreaRouters();
        x.attach(0, 0, 1, 0);
        x.attach(1, 0, 1, 0);
        x.hello(0, 0, 63);
        x.hello(1, 0, 63);
        x.describe(0);
        x.describe(1);
        Check.same("told", x.summary(0, 0, 1, 63), 1);
        Check.same("0 is no neighbour of 1", x.marks(1, 1, 0), 0);
        x.summary(1, 0, 1, 63);
        Check.same("1 is a neighbour of 0", x.marks(0, 1, 7), 64);
        Check.same("told", x.request(0, 0, 1, 63), 1);
        Check.same("asked no more", x.marks(0, 1, 7), 0);
    }

    private static void wrongInputs() {
        AreaRouters x = Check.pair();
        x.describe(0);
        x.spread(0, 0, 1, 63);
        String before = Check.picture(x);
        Check.fails("summary(-1, 0)", IndexOutOfBoundsException.class, () -> x.summary(-1, 0, 1, 63));
        Check.fails("summary(6, 0)", IndexOutOfBoundsException.class, () -> x.summary(6, 0, 1, 63));
        Check.fails("summary(0, -1)", IndexOutOfBoundsException.class, () -> x.summary(0, -1, 1, 63));
        Check.fails("summary(0, 6)", IndexOutOfBoundsException.class, () -> x.summary(0, 6, 1, 63));
        Check.fails("summary(0, 1)", IllegalStateException.class, () -> x.summary(0, 1, 1, 63));
        Check.fails("summary(0, 1) at level 2", IllegalStateException.class, () -> x.summary(0, 1, 2, 63));
        Check.fails("summary at level 2", IllegalArgumentException.class, () -> x.summary(0, 0, 2, 63));
        Check.fails("summary at level 3", IllegalArgumentException.class, () -> x.summary(0, 0, 3, 63));
        Check.fails("request(-1, 0)", IndexOutOfBoundsException.class, () -> x.request(-1, 0, 1, 63));
        Check.fails("request(6, 0)", IndexOutOfBoundsException.class, () -> x.request(6, 0, 1, 63));
        Check.fails("request(1, -1)", IndexOutOfBoundsException.class, () -> x.request(1, -1, 1, 63));
        Check.fails("request(1, 6)", IndexOutOfBoundsException.class, () -> x.request(1, 6, 1, 63));
        Check.fails("request(1, 1)", IllegalStateException.class, () -> x.request(1, 1, 1, 63));
        Check.fails("request(1, 1) at level 2", IllegalStateException.class, () -> x.request(1, 1, 2, 63));
        Check.fails("request at level 2", IllegalArgumentException.class, () -> x.request(1, 0, 2, 63));
        Check.fails("request at level 0", IllegalArgumentException.class, () -> x.request(1, 0, 0, 63));
        Check.yes("nothing changed", before.equals(Check.picture(x)));
    }
}
