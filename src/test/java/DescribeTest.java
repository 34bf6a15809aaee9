/** Promises 8 and 12: describe, description. */
public final class DescribeTest {
    public static void main(String[] args) {
        itself();
        linksByCircuit();
        sharedCircuit();
        speakerChanges();
        becomesShared();
        everyCircuit();
        exits();
        renewal();
        wrongInputs();
        Check.finish();
    }

    private static void itself() {
        AreaRouters x = Check.pair();
        Check.same("first", x.describe(0), 1);
        Check.same("sequence", x.description(0, 1, 0, 0), 1);
        Check.same("life", x.description(0, 1, 0, 1), 20);
        Check.same("exit", x.description(0, 1, 0, 2), 0);
        Check.same("area", x.description(0, 1, 0, 3), 0);
        Check.same("links", x.description(0, 1, 0, 4), 1);
        Check.same("link 0", x.description(0, 1, 0, 5), 7 + 640);
        Check.same("no link 1", x.description(0, 1, 0, 6), -1);
        Check.same("due", x.marks(0, 1, 0), 1);
        Check.same("nothing new", x.describe(0), 0);
        Check.same("another's base", x.description(1, 1, 0, 0), -1);
        Check.same("no part of circuit 0", x.description(0, 1, 1, 0), -1);
    }

    private static void linksByCircuit() {
        AreaRouters x = new AreaRouters();
        x.attach(3, 5, 50, 0);
        x.attach(1, 5, 1, 0);
        x.attach(3, 1, 11, 0);
        x.attach(5, 1, 1, 0);
        x.attach(3, 4, 40, 0);
        x.attach(1, 4, 1, 0);
        x.attach(3, 2, 20, 0);
        Check.greet(x, 5, 3, 1);
        Check.greet(x, 1, 3, 5);
        Check.greet(x, 4, 3, 1);
        Check.same("describe", x.describe(3), 1);
        Check.same("three links", x.description(3, 1, 21, 4), 3);
        Check.same("circuit 1", x.description(3, 1, 21, 5), 35 + 64 * 11);
        Check.same("circuit 4", x.description(3, 1, 21, 6), 7 + 64 * 40);
        Check.same("circuit 5", x.description(3, 1, 21, 7), 7 + 64 * 50);
        Check.same("due on all of its circuits", x.marks(3, 1, 21), 2 + 4 + 16 + 32);
        x.attach(3, 5, 40, 0);
        x.attach(3, 4, 50, 0);
        Check.same("the same metrics the other way round", x.describe(3), 1);
        Check.same("circuit 4 now", x.description(3, 1, 21, 6), 7 + 64 * 50);
    }

    private static void sharedCircuit() {
        AreaRouters x = Check.trio();
        Check.same("0 describes itself", x.describe(0), 1);
        Check.same("0's link", x.description(0, 1, 0, 5), 17 + 64 * 3);
        Check.same("one link only", x.description(0, 1, 0, 4), 1);
        Check.same("0 does not speak", x.description(0, 1, 3, 0), -1);
        Check.same("2 describes itself and the circuit", x.describe(2), 2);
        Check.same("2's link", x.description(2, 1, 14, 5), 17 + 64 * 5);
        Check.same("circuit's links", x.description(2, 1, 17, 4), 3);
        Check.same("the speaker first", x.description(2, 1, 17, 5), 14);
        Check.same("then 0", x.description(2, 1, 17, 6), 0);
        Check.same("then 1", x.description(2, 1, 17, 7), 7);
        Check.same("no more", x.description(2, 1, 17, 8), -1);
        Check.same("circuit's sequence", x.description(2, 1, 17, 0), 1);
        Check.same("circuit's life", x.description(2, 1, 17, 1), 20);
        Check.same("circuit's exit", x.description(2, 1, 17, 2), 0);
        Check.same("due", x.marks(2, 1, 17), 4);
        x.attach(3, 2, 1, 0);
        Check.same("an attached one is no neighbour yet", x.describe(2), 0);
        Check.greet(x, 2, 3, 2);
        x.hello(3, 2, 63);
        Check.same("circuit with 3", x.describe(2), 1);
        Check.same("3 behind 1", x.description(2, 1, 17, 8), 21);
        Check.same("sequence 2", x.description(2, 1, 17, 0), 2);
        Check.ticks(x, 4);
        Check.same("no neighbours: new itself, circuit ends", x.describe(2), 2);
        Check.same("itself without links", x.description(2, 1, 14, 4), 0);
        Check.same("circuit has ended", x.description(2, 1, 17, 1), 0);
        Check.same("its sequence stays", x.description(2, 1, 17, 0), 2);
        Check.same("its links stay", x.description(2, 1, 17, 4), 4);
    }

    private static void speakerChanges() {
        AreaRouters x = Check.trio();
        x.describe(2);
        x.spread(2, 2, 1, 63);
        Check.same("not due after it was sent", x.marks(2, 1, 17), 0);
        x.attach(2, 2, 5, 0);
        x.attach(2, 0, 5, 0);
        Check.same("itself new, circuit ended", x.describe(2), 2);
        Check.same("new speaker", x.description(2, 1, 14, 5), 7 + 3 + 64 * 5);
        Check.same("life 0", x.description(2, 1, 17, 1), 0);
        Check.same("due on all circuits", x.marks(2, 1, 17), 5);
        Check.same("ended once only", x.describe(2), 0);
        Check.same("1 speaks", x.describe(1), 2);
        Check.same("1's circuit", x.description(1, 1, 10, 5), 7);
        x.attach(2, 2, 5, 9);
        Check.same("speaks again", x.describe(2), 2);
        Check.same("a greater sequence", x.description(2, 1, 17, 0), 2);
        Check.same("life 20", x.description(2, 1, 17, 1), 20);
    }

    private static void becomesShared() {
        AreaRouters x = Check.pair();
        x.describe(1);
        Check.same("not shared", x.description(1, 1, 7, 5), 64 * 20);
        x.attach(2, 0, 1, 0);
        Check.same("shared: itself and the circuit", x.describe(1), 2);
        Check.same("its link", x.description(1, 1, 7, 5), 8 + 64 * 20);
        Check.same("circuit", x.description(1, 1, 8, 4), 2);
        Check.same("a speaker without neighbours says nothing", x.describe(2), 1);
        Check.same("and has no link", x.description(2, 1, 14, 4), 0);
    }

    private static void everyCircuit() {
        for (int c = 0; c < 6; c++) {
            AreaRouters x = new AreaRouters();
            for (int r = 3; r < 6; r++) {
                x.attach(r, c, 2, 0);
            }
            Check.greet(x, c, 3, 4, 5);
            Check.same("itself and the circuit", x.describe(5), 2);
            Check.same("link to the circuit", x.description(5, 1, 35, 5), 36 + c + 128);
            Check.same("links of the circuit", x.description(5, 1, 36 + c, 4), 3);
        }
    }

    private static void exits() {
        AreaRouters x = new AreaRouters();
        x.place(0, 0, 3);
        x.place(1, 1, 3);
        x.place(2, 0, 3);
        x.place(3, 1, 2);
        x.place(4, 0, 2);
        x.attach(0, 0, 1, 0);
        x.attach(2, 0, 1, 0);
        x.attach(0, 1, 1, 0);
        x.attach(1, 1, 1, 0);
        x.attach(3, 2, 1, 0);
        x.attach(4, 2, 1, 0);
        Check.greet(x, 0, 0, 2);
        Check.greet(x, 2, 3, 4);
        Check.same("both levels", x.describe(0), 2);
        Check.same("a level 2 neighbour of its own area", x.description(0, 1, 0, 2), 0);
        Check.greet(x, 1, 0, 1);
        Check.same("new at both levels", x.describe(0), 2);
        Check.same("exit at level 1", x.description(0, 1, 0, 2), 1);
        Check.same("no exit at level 2", x.description(0, 2, 0, 2), 0);
        Check.same("links at level 1", x.description(0, 1, 0, 4), 1);
        Check.same("links at level 2", x.description(0, 2, 0, 4), 2);
        Check.same("level 2 alone", x.describe(3), 1);
        Check.same("no exit at level 2 alone", x.description(3, 2, 21, 2), 0);
        Check.ticks(x, 3);
        Check.greet(x, 0, 0, 2);
        x.tick();
        Check.same("exit is lost: level 1 too", x.describe(0), 2);
        Check.same("no exit any more", x.description(0, 1, 0, 2), 0);
        Check.same("links at level 1 as before", x.description(0, 1, 0, 4), 1);

        AreaRouters y = new AreaRouters();
        for (int r = 0; r < 4; r++) {
            y.place(r, r == 3 ? 1 : 0, 3);
            y.attach(r, 0, 1, r == 0 ? 9 : 0);
        }
        Check.greet(y, 0, 0, 1, 2, 3);
        Check.same("itself and circuit at both levels", y.describe(0), 4);
        Check.same("exit of itself", y.description(0, 1, 0, 2), 1);
        Check.same("no exit of the circuit", y.description(0, 1, 1, 2), 0);
        Check.same("circuit at level 1", y.description(0, 1, 1, 4), 3);
        Check.same("circuit at level 2", y.description(0, 2, 1, 4), 4);
    }

    private static void renewal() {
        AreaRouters x = new AreaRouters();
        x.describe(0);
        Check.ticks(x, 14);
        Check.same("life 6", x.describe(0), 0);
        x.tick();
        Check.same("life 5", x.describe(0), 1);
        Check.same("sequence", x.description(0, 1, 0, 0), 2);
        Check.same("life", x.description(0, 1, 0, 1), 20);
        Check.ticks(x, 20);
        Check.same("life 0", x.description(0, 1, 0, 1), 0);
        Check.same("over", x.describe(0), 1);
        Check.same("sequence", x.description(0, 1, 0, 0), 3);
        Check.ticks(x, 23);
        Check.same("gone", x.description(0, 1, 0, 0), -1);
        Check.same("none", x.describe(0), 1);
        Check.same("sequence goes on", x.description(0, 1, 0, 0), 4);
    }

    private static void wrongInputs() {
        AreaRouters x = Check.trio();
        x.describe(2);
        String before = Check.picture(x);
        Check.fails("describe(-1)", IndexOutOfBoundsException.class, () -> x.describe(-1));
        Check.fails("describe(6)", IndexOutOfBoundsException.class, () -> x.describe(6));
        int[] odd = {Integer.MIN_VALUE, -1, 42, 63, Integer.MAX_VALUE};
        for (int i : odd) {
            Check.same("description of none", x.description(i, 1, 14, 0), -1);
            Check.same("description at no level", x.description(2, i, 14, 0), -1);
            Check.same("description of no name", x.description(2, 1, i, 0), -1);
            Check.same("description's nothing", x.description(2, 1, 14, i), -1);
        }
        Check.same("router 6", x.description(6, 1, 14, 0), -1);
        Check.same("level 0", x.description(2, 0, 14, 0), -1);
        Check.same("level 3", x.description(2, 3, 14, 0), -1);
        Check.same("level 2", x.description(2, 2, 14, 0), -1);
        Check.yes("nothing changed", before.equals(Check.picture(x)));
    }
}
