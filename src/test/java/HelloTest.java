/** Promises 4, 10 and 11: hello, neighbour, speaker. */
public final class HelloTest {
    public static void main(String[] args) {
        whoReceives();
        namesAsItIsSent();
        levelsAndAreas();
        perCircuit();
        hearingEnds();
        speakers();
        wrongInputs();
        Check.finish();
    }

    private static void whoReceives() {
        AreaRouters x = new AreaRouters();
        x.place(1, 1, 2);
        for (int r = 0; r < 4; r++) {
            x.attach(r, 0, 1, 0);
        }
        Check.same("all meant", x.hello(0, 0, 63), 3);
        Check.same("all bits", x.hello(0, 0, -1), 3);
        Check.same("none meant", x.hello(0, 0, 0), 0);
        Check.same("bits of nobody", x.hello(0, 0, ~63), 0);
        Check.same("itself alone", x.hello(0, 0, 1), 0);
        Check.same("no level in common", x.hello(0, 0, 2), 1);
        Check.same("not attached", x.hello(0, 0, 16 + 32), 0);
        Check.same("some", x.hello(0, 0, 4 + 16), 1);
    }

    private static void namesAsItIsSent() {
        AreaRouters x = new AreaRouters();
        x.attach(0, 0, 1, 0);
        x.attach(1, 0, 1, 0);
        x.hello(0, 0, 63);
        Check.no("0 did not hear 1 yet", x.neighbour(1, 0, 1, 0));
        Check.no("0 heard nobody", x.neighbour(0, 0, 1, 1));
        x.hello(1, 0, 63);
        Check.yes("1 named 0", x.neighbour(0, 0, 1, 1));
        Check.no("0 has not named 1 yet", x.neighbour(1, 0, 1, 0));
        x.hello(0, 0, 0);
        Check.no("a hello that 1 is not meant by", x.neighbour(1, 0, 1, 0));
        x.hello(0, 0, 2);
        Check.yes("0 named 1", x.neighbour(1, 0, 1, 0));
        Check.ticks(x, 2);
        x.hello(1, 0, 0);
        x.hello(0, 0, 2);
        Check.ticks(x, 2);
        Check.no("0 hears 1 no more", x.neighbour(0, 0, 1, 1));
        Check.yes("1 does not know that", x.neighbour(1, 0, 1, 0));
        x.hello(0, 0, 2);
        Check.no("the latest hello does not name 1", x.neighbour(1, 0, 1, 0));
    }

    private static void levelsAndAreas() {
        AreaRouters x = new AreaRouters();
        x.place(0, 0, 3);
        x.place(1, 1, 3);
        x.place(2, 0, 1);
        x.place(3, 0, 2);
        for (int r = 0; r < 4; r++) {
            x.attach(r, 4, 1, 0);
        }
        Check.greet(x, 4, 0, 1, 2, 3);
        Check.no("level 1, other area", x.neighbour(0, 4, 1, 1));
        Check.yes("level 2, other area", x.neighbour(0, 4, 2, 1));
        Check.yes("level 1, same area", x.neighbour(0, 4, 1, 2));
        Check.no("level 2 of a level 1 router", x.neighbour(0, 4, 2, 2));
        Check.no("level 1 of a level 2 router", x.neighbour(0, 4, 1, 3));
        Check.yes("level 2, same area", x.neighbour(0, 4, 2, 3));
        Check.no("nothing in common", x.neighbour(2, 4, 1, 3) || x.neighbour(2, 4, 2, 3));
        Check.no("not itself", x.neighbour(0, 4, 1, 0));
    }

    private static void perCircuit() {
        AreaRouters x = Check.pair();
        x.attach(0, 1, 1, 0);
        x.attach(1, 1, 1, 0);
        x.hello(0, 1, 63);
        Check.no("heard on the other circuit only", x.neighbour(1, 1, 1, 0));
        Check.yes("as before", x.neighbour(1, 0, 1, 0));
    }

    private static void hearingEnds() {
        AreaRouters x = Check.pair();
        Check.ticks(x, 3);
        Check.yes("three ticks", x.neighbour(0, 0, 1, 1) && x.neighbour(1, 0, 1, 0));
        x.hello(1, 0, 63);
        x.tick();
        Check.yes("said again", x.neighbour(0, 0, 1, 1));
        Check.no("four ticks", x.neighbour(1, 0, 1, 0));
        Check.ticks(x, 2);
        Check.yes("three ticks again", x.neighbour(0, 0, 1, 1));
        x.tick();
        Check.no("four ticks again", x.neighbour(0, 0, 1, 1));
    }

    private static void speakers() {
        AreaRouters x = new AreaRouters();
        x.place(3, 0, 3);
        x.attach(0, 0, 1, 5);
        x.attach(1, 0, 1, 5);
        x.attach(2, 0, 1, 4);
        x.attach(3, 0, 1, 100);
        Check.same("alone", x.speaker(0, 0, 1), 0);
        Check.greet(x, 0, 0, 1, 2);
        Check.same("greatest number of several", x.speaker(0, 0, 1), 1);
        Check.same("as another sees it", x.speaker(2, 0, 1), 1);
        Check.same("3 has no neighbour", x.speaker(3, 0, 1), 3);
        Check.same("3 at level 2", x.speaker(3, 0, 2), 3);
        Check.same("0 has no level 2", x.speaker(0, 0, 2), -1);
        x.attach(0, 0, 1, 6);
        Check.same("priority as it is now", x.speaker(2, 0, 1), 0);
        x.attach(2, 0, 1, 6);
        Check.same("several again", x.speaker(0, 0, 1), 2);
        Check.same("not attached", x.speaker(4, 0, 1), -1);
        Check.ticks(x, 4);
        Check.same("no neighbours left", x.speaker(0, 0, 1), 0);
    }

    private static void wrongInputs() {
        AreaRouters x = Check.pair();
        String before = Check.picture(x);
        Check.fails("hello(-1, 0)", IndexOutOfBoundsException.class, () -> x.hello(-1, 0, 63));
        Check.fails("hello(6, 0)", IndexOutOfBoundsException.class, () -> x.hello(6, 0, 63));
        Check.fails("hello(0, -1)", IndexOutOfBoundsException.class, () -> x.hello(0, -1, 63));
        Check.fails("hello(0, 6)", IndexOutOfBoundsException.class, () -> x.hello(0, 6, 63));
        Check.fails("hello(0, 1)", IllegalStateException.class, () -> x.hello(0, 1, 63));
        Check.fails("hello(2, 0)", IllegalStateException.class, () -> x.hello(2, 0, 63));
        Check.fails("hello(2, 6)", IndexOutOfBoundsException.class, () -> x.hello(2, 6, 63));
        int[] odd = {Integer.MIN_VALUE, -1, 6, 7, 63, Integer.MAX_VALUE};
        for (int i : odd) {
            Check.no("neighbour of none", x.neighbour(i, 0, 1, 1));
            Check.no("neighbour on no circuit", x.neighbour(0, i, 1, 1));
            Check.no("neighbour at no level", x.neighbour(0, 0, i, 1));
            Check.no("none as neighbour", x.neighbour(0, 0, 1, i));
            Check.same("speaker for none", x.speaker(i, 0, 1), -1);
            Check.same("speaker on no circuit", x.speaker(0, i, 1), -1);
            Check.same("speaker at no level", x.speaker(0, 0, i), -1);
        }
        Check.no("level 0", x.neighbour(0, 0, 0, 1));
        Check.no("level 3", x.neighbour(0, 0, 3, 1));
        Check.same("level 0", x.speaker(0, 0, 0), -1);
        Check.same("level 3", x.speaker(0, 0, 3), -1);
        Check.yes("nothing changed", before.equals(Check.picture(x)));
    }
}
