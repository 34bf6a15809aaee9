/** Promises 5 and 13: spread, marks. */
public final class SpreadTest {
    public static void main(String[] args) {
        onTwo();
        onShared();
        onlyFromNeighbours();
        passesOn();
        sameAndNewer();
        askedAsBeforeOnShared();
        olderComes();
        olderUnasks();
        olderMakesDue();
        lifeZeroIsNewer();
        ownNameAnew();
        ownNameEnds();
        ownNameWithLifeZero();
        levelsApart();
        wrongInputs();
        Check.finish();
    }

    private static void onTwo() {
        AreaRouters x = Check.pair();
        Check.same("nothing due", x.spread(0, 0, 1, 63), 0);
        x.describe(0);
        Check.same("nobody meant", x.spread(0, 0, 1, 1), 1);
        Check.same("not received", x.description(1, 1, 0, 0), -1);
        Check.same("one due", x.spread(0, 0, 1, 2), 1);
        Check.same("received", x.description(1, 1, 0, 0), 1);
        Check.same("its link", x.description(1, 1, 0, 5), 7 + 640);
        Check.same("its life", x.description(1, 1, 0, 1), 20);
        Check.same("asked, not due", x.marks(1, 1, 0), 64);
        Check.same("still due", x.marks(0, 1, 0), 1);
        Check.same("sent again", x.spread(0, 0, 1, 63), 1);
        Check.same("asked, not due", x.marks(1, 1, 0), 64);
    }

    private static void onShared() {
        AreaRouters x = Check.trio();
        x.describe(2);
        Check.same("two due", x.marks(2, 1, 14) + x.marks(2, 1, 17), 8);
        Check.same("two sent", x.spread(2, 2, 1, 1), 2);
        Check.same("not due any more, whoever received it", x.marks(2, 1, 14) + x.marks(2, 1, 17), 0);
        Check.same("none left", x.spread(2, 2, 1, 63), 0);
        Check.same("0 has it", x.description(0, 1, 17, 4), 3);
        Check.same("0 has no mark of it", x.marks(0, 1, 17), 0);
        Check.same("1 was not meant", x.description(1, 1, 17, 4), -1);
    }

    private static void onlyFromNeighbours() {
        AreaRouters x = new AreaRouters();
        x.attach(0, 0, 1, 0);
        x.attach(1, 0, 1, 0);
        x.hello(0, 0, 63);
        x.describe(0);
        Check.same("sent", x.spread(0, 0, 1, 63), 1);
        Check.same("0 is no neighbour of 1", x.description(1, 1, 0, 0), -1);
        x.hello(1, 0, 63);
        x.describe(1);
        x.spread(1, 0, 1, 63);
        Check.same("1 is a neighbour of 0", x.description(0, 1, 7, 0), 1);
    }

    /** A chain 0 - 1 - 2: circuit 0 between 0 and 1, circuit 1 between 1 and 2, circuit 5 of 1 alone. */
    private static AreaRouters chain() {
        AreaRouters x = Check.pair();
        x.attach(1, 1, 1, 0);
        x.attach(2, 1, 1, 0);
        x.attach(1, 5, 1, 0);
        Check.greet(x, 1, 1, 2);
        return x;
    }

    private static void passesOn() {
        AreaRouters x = chain();
        x.describe(0);
        x.spread(0, 0, 1, 63);
        Check.same("due on the others, asked there", x.marks(1, 1, 0), 2 + 32 + 64);
        Check.same("passed on", x.spread(1, 1, 1, 63), 1);
        Check.same("2 has it", x.description(2, 1, 0, 0), 1);
        Check.same("2 asks", x.marks(2, 1, 0), 64 * 2);
        Check.same("not sent back", x.spread(1, 0, 1, 63), 0);
        x.attach(0, 0, 11, 0);
        x.describe(0);
        x.spread(0, 0, 1, 63);
        Check.same("a newer one", x.description(1, 1, 0, 0), 2);
        Check.same("its metric", x.description(1, 1, 0, 5), 7 + 64 * 11);
        Check.same("due again on the others", x.marks(1, 1, 0), 2 + 32 + 64);
    }

    private static void sameAndNewer() {
        AreaRouters x = chain();
        x.describe(0);
        x.spread(0, 0, 1, 63);
        x.spread(1, 1, 1, 63);
        x.request(1, 0, 1, 0);
        Check.same("asked no more", x.marks(1, 1, 0), 2 + 32);
        x.spread(0, 0, 1, 63);
        Check.same("the same: asked again, due elsewhere as before", x.marks(1, 1, 0), 2 + 32 + 64);
        x.tick();
        x.summary(2, 1, 1, 2);
        Check.same("the same is not due there", x.marks(1, 1, 0), 32 + 64);
    }

    private static void askedAsBeforeOnShared() {
        AreaRouters x = Check.trio();
        x.describe(0);
        x.spread(0, 2, 1, 2);
        x.attach(0, 2, 30, 5);
        x.describe(0);
        x.spread(0, 2, 1, 4);
        x.summary(2, 2, 1, 2);
        Check.same("1 asks for the newer one", x.marks(1, 1, 0), 64 * 4);
        x.summary(1, 2, 1, 4);
        Check.same("2 has a newer one: due", x.marks(2, 1, 0), 4);
        x.spread(2, 2, 1, 2);
        Check.same("1 has it", x.description(1, 1, 0, 5), 17 + 64 * 30);
        Check.same("asked as before", x.marks(1, 1, 0), 64 * 4);
        x.attach(0, 2, 31, 5);
        x.describe(0);
        x.spread(0, 2, 1, 4 + 2);
        Check.same("still asked as before", x.marks(1, 1, 0), 64 * 4);
        Check.same("not asked as before", x.marks(2, 1, 0), 0);
    }

    /** A ring of 0, 1 and 2; 2 gets 0's sequence 1 due towards 1, which has 0's sequence 2 by then. */
    private static void olderComes() {
        AreaRouters x = new AreaRouters();
        x.attach(0, 0, 10, 0);
        x.attach(1, 0, 10, 0);
        x.attach(0, 1, 10, 0);
        x.attach(2, 1, 10, 0);
        x.attach(1, 2, 10, 0);
        x.attach(2, 2, 10, 0);
        Check.greet(x, 0, 0, 1);
        Check.greet(x, 1, 0, 2);
        Check.greet(x, 2, 1, 2);
        x.describe(0);
        x.spread(0, 0, 1, 63);
        x.spread(0, 1, 1, 63);
        Check.same("2's is due towards 1", x.marks(2, 1, 0), 4 + 64 * 2);
        x.summary(2, 2, 1, 63);
        x.spread(2, 2, 1, 63);
        Check.same("1 asks on both", x.marks(1, 1, 0), 64 * (1 + 4));
        x.attach(0, 1, 20, 0);
        x.describe(0);
        x.spread(0, 0, 1, 63);
        x.spread(1, 2, 1, 0);
        x.summary(2, 2, 1, 63);
        Check.same("newer at 1: due towards 2, asked as before", x.marks(1, 1, 0), 4 + 64 * (1 + 4));
        x.request(1, 2, 1, 0);
        x.spread(2, 2, 1, 63);
        Check.same("1 keeps the newer one", x.description(1, 1, 0, 0), 2);
        Check.same("due towards 2, not asked there", x.marks(1, 1, 0), 4 + 64);
        x.spread(1, 2, 1, 63);
        Check.same("2 takes it", x.description(2, 1, 0, 5 + 1), 14 + 64 * 20);
        Check.same("2 due towards 0, asked on both", x.marks(2, 1, 0), 2 + 64 * (2 + 4));
    }

    /** An older one takes away the asking where it came from. */
    private static void olderUnasks() {
        AreaRouters x = new AreaRouters();
        x.attach(0, 0, 10, 0);
        x.attach(1, 0, 10, 0);
        x.attach(1, 2, 10, 0);
        x.attach(2, 2, 10, 0);
        x.attach(0, 1, 10, 0);
        x.attach(2, 1, 10, 0);
        Check.greet(x, 0, 0, 1);
        Check.greet(x, 1, 0, 2);
        Check.greet(x, 2, 1, 2);
        x.describe(0);
        x.spread(0, 1, 1, 63);
        x.spread(2, 2, 1, 63);
        Check.same("1 asks where it came from", x.marks(1, 1, 0), 1 + 64 * 4);
        x.attach(0, 1, 20, 0);
        x.describe(0);
        x.spread(0, 0, 1, 63);
        Check.same("newer from elsewhere: asked on both", x.marks(1, 1, 0), 4 + 64 * (1 + 4));
        x.spread(2, 2, 1, 63);
        Check.same("the older one again: asked there no more", x.marks(1, 1, 0), 4 + 64);
    }

    private static void olderMakesDue() {
        AreaRouters x = Check.trio();
        x.describe(0);
        x.spread(0, 2, 1, 4);
        x.summary(1, 2, 1, 4);
        Check.same("2 has sequence 1 due", x.marks(2, 1, 0), 4);
        x.attach(0, 2, 30, 5);
        x.describe(0);
        x.spread(0, 2, 1, 2);
        Check.same("1 has sequence 2, due nowhere", x.marks(1, 1, 0), 0);
        Check.same("2 sends the old one", x.spread(2, 2, 1, 2), 1);
        Check.same("1 keeps the newer one", x.description(1, 1, 0, 0), 2);
        Check.same("due at 1 by this", x.marks(1, 1, 0), 4);
    }

    private static void lifeZeroIsNewer() {
        AreaRouters x = Check.trio();
        x.describe(2);
        x.spread(2, 2, 1, 63);
        x.attach(2, 2, 5, 0);
        x.describe(2);
        Check.same("ended one sent, and itself", x.spread(2, 2, 1, 1), 2);
        Check.same("0 has it with life 0", x.description(0, 1, 17, 1), 0);
        Check.same("same sequence", x.description(0, 1, 17, 0), 1);
        Check.same("1 has it alive", x.description(1, 1, 17, 1), 20);
        x.summary(1, 2, 1, 1);
        Check.same("0 has a newer one", x.marks(0, 1, 17), 4);
        x.summary(0, 2, 1, 2);
        Check.same("1 asks", x.marks(1, 1, 17), 64 * 4);
        x.spread(0, 2, 1, 2);
        Check.same("1 has it with life 0", x.description(1, 1, 17, 1), 0);
        Check.same("one that has none takes it with life 0", endedToNewcomer(x), 0);
    }

    private static int endedToNewcomer(AreaRouters x) {
        x.attach(3, 2, 1, 0);
        Check.greet(x, 2, 3, 2);
        x.hello(3, 2, 63);
        x.hello(2, 2, 63);
        x.attach(2, 2, 5, 50);
        x.describe(2);
        x.attach(2, 2, 5, 0);
        x.describe(2);
        x.spread(2, 2, 1, 8);
        return x.description(3, 1, 17, 1);
    }

    /** 1 has a description of 0 with a greater sequence than 0's base, from before 0's went. */
    private static AreaRouters withEndedCircuitKeptBy(boolean speaksAgain) {
        AreaRouters x = Check.trio();
        x.describe(2);
        x.spread(2, 2, 1, 63);
        x.attach(2, 2, 5, 0);
        x.describe(2);
        x.spread(2, 2, 1, 0);
        for (int i = 0; i < 3; i++) {
            Check.greet(x, 2, 0, 1, 2);
            x.tick();
        }
        Check.same("2's went", x.description(2, 1, 17, 0), -1);
        Check.same("1's lives", x.description(1, 1, 17, 1), 17);
        if (speaksAgain) {
            x.attach(2, 2, 5, 9);
        }
        x.attach(2, 4, 5, 0);
        x.summary(2, 2, 1, 2);
        Check.same("1 has what 2 did not tell: due", x.marks(1, 1, 17), 4);
        return x;
    }

    private static void ownNameAnew() {
        AreaRouters x = withEndedCircuitKeptBy(true);
        x.summary(1, 2, 1, 4);
        Check.same("2 asks for its own", x.marks(2, 1, 17), 64 * 4);
        x.spread(1, 2, 1, 4);
        Check.same("described anew", x.description(2, 1, 17, 0), 2);
        Check.same("with a whole life", x.description(2, 1, 17, 1), 20);
        Check.same("due on all circuits, asked nowhere", x.marks(2, 1, 17), 4 + 16);
        Check.same("only itself is left to describe", x.describe(2), 1);
    }

    private static void ownNameEnds() {
        AreaRouters x = withEndedCircuitKeptBy(false);
        x.summary(1, 2, 1, 4);
        x.spread(1, 2, 1, 4);
        Check.same("as it came", x.description(2, 1, 17, 0), 1);
        Check.same("links as they came", x.description(2, 1, 17, 4), 3);
        Check.same("its life becomes 0", x.description(2, 1, 17, 1), 0);
        Check.same("due on all circuits, asked nowhere", x.marks(2, 1, 17), 4 + 16);
        Check.ticks(x, 2);
        Check.same("two ticks at 0", x.description(2, 1, 17, 1), 0);
        x.tick();
        Check.same("three ticks at 0", x.description(2, 1, 17, 1), -1);
    }

    /** 1's copy rests one tick later than 2's own, so that 1 still has it with life 0 when 2's has gone. */
    private static void ownNameWithLifeZero() {
        AreaRouters x = Check.trio();
        x.describe(2);
        x.spread(2, 2, 1, 63);
        x.attach(2, 2, 5, 0);
        x.attach(2, 3, 5, 0);
        x.describe(2);
        x.tick();
        Check.greet(x, 2, 0, 1, 2);
        x.spread(2, 2, 1, 2);
        Check.ticks(x, 2);
        Check.same("gone at 2", x.description(2, 1, 17, 0), -1);
        Check.same("1 has it with life 0", x.description(1, 1, 17, 1), 0);
        x.summary(1, 2, 1, 4);
        Check.same("2 asks for it", x.marks(2, 1, 17), 64 * 4);
        x.request(2, 2, 1, 2);
        Check.same("due at 1", x.marks(1, 1, 17), 4);
        Check.same("2 asks no more", x.marks(2, 1, 17), 0);
        x.attach(2, 2, 5, 9);
        x.spread(1, 2, 1, 4);
        Check.same("life 0", x.description(2, 1, 17, 1), 0);
        Check.same("not described anew by this", x.description(2, 1, 17, 0), 1);
        Check.same("due elsewhere", x.marks(2, 1, 17), 8);
        Check.ticks(x, 1);
        Check.same("1's goes", x.description(1, 1, 17, 1), -1);
        Check.same("2's has a tick of its own", x.description(2, 1, 17, 1), 0);
        Check.greet(x, 2, 0, 1, 2);
        x.describe(2);
        Check.same("described then", x.description(2, 1, 17, 0), 2);
    }

    private static void levelsApart() {
        AreaRouters x = new AreaRouters();
        x.place(0, 0, 3);
        x.place(1, 0, 3);
        x.attach(0, 0, 1, 0);
        x.attach(1, 0, 1, 0);
        Check.greet(x, 0, 0, 1);
        x.describe(0);
        Check.same("level 2", x.spread(0, 0, 2, 63), 1);
        Check.same("at level 2", x.description(1, 2, 0, 0), 1);
        Check.same("not at level 1", x.description(1, 1, 0, 0), -1);
        Check.same("marks at level 1", x.marks(1, 1, 0), 0);
        Check.same("marks at level 2", x.marks(1, 2, 0), 64);
    }

    private static void wrongInputs() {
        AreaRouters x = Check.pair();
        x.describe(0);
        String before = Check.picture(x);
        Check.fails("spread(-1, 0)", IndexOutOfBoundsException.class, () -> x.spread(-1, 0, 1, 63));
        Check.fails("spread(6, 0)", IndexOutOfBoundsException.class, () -> x.spread(6, 0, 1, 63));
        Check.fails("spread(0, -1)", IndexOutOfBoundsException.class, () -> x.spread(0, -1, 1, 63));
        Check.fails("spread(0, 6)", IndexOutOfBoundsException.class, () -> x.spread(0, 6, 9, 63));
        Check.fails("spread(0, 1)", IllegalStateException.class, () -> x.spread(0, 1, 1, 63));
        Check.fails("spread(0, 1) at level 2", IllegalStateException.class, () -> x.spread(0, 1, 2, 63));
        Check.fails("spread at level 2", IllegalArgumentException.class, () -> x.spread(0, 0, 2, 63));
        Check.fails("spread at level 0", IllegalArgumentException.class, () -> x.spread(0, 0, 0, 63));
        Check.fails("spread at level 3", IllegalArgumentException.class, () -> x.spread(0, 0, 3, 63));
        Check.fails("spread at level -1", IllegalArgumentException.class, () -> x.spread(0, 0, -1, 63));
        int[] odd = {Integer.MIN_VALUE, -1, 42, Integer.MAX_VALUE};
        for (int i : odd) {
            Check.same("marks of none", x.marks(i, 1, 0), -1);
            Check.same("marks at no level", x.marks(0, i, 0), -1);
            Check.same("marks of no name", x.marks(0, 1, i), -1);
        }
        Check.same("router 6", x.marks(6, 1, 0), -1);
        Check.same("level 0", x.marks(0, 0, 0), -1);
        Check.same("level 2", x.marks(0, 2, 0), -1);
        Check.same("level 3", x.marks(0, 3, 0), -1);
        Check.same("a name without a description", x.marks(0, 1, 41), 0);
        Check.yes("nothing changed", before.equals(Check.picture(x)));
    }
}
