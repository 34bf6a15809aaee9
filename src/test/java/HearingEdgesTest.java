/** The edges of the terms SHARED, HELLO, NEIGHBOUR and THE SPEAKER; each test stands for the words above it. */
public final class HearingEdgesTest {
    public static void main(String[] args) {
        heardForFourTicks();
        fourTicksFromTheLatest();
        notMeantIsNotHeard();
        namesWhomItHearsAsItIsSent();
        receivedByNumber();
        latestHelloDecides();
        levelInCommonOrNot();
        levelOneOfOneAreaOnly();
        heardOnThatCircuitOnly();
        heardAtEachLevelByItself();
        sharedForLinks();
        sharedForDue();
        sharedForAsked();
        aSilentThirdShares();
        greatestPriority();
        greatestNumberOfSeveral();
        priorityAsItIsNow();
        speakerAmongNeighboursOnly();
        Check.finish();
    }

    private static AreaRouters attached(int c, int count) {
        AreaRouters x = new AreaRouters();
        for (int r = 0; r < count; r++) {
            x.attach(r, c, 1, 0);
        }
        return x;
    }

    /** "that it HEARS r there, for 4 TICKS from now on" */
    private static void heardForFourTicks() {
        for (int ticks = 0; ticks <= 6; ticks++) {
            AreaRouters x = Check.pair();
            Check.ticks(x, ticks);
            Check.same("neighbours after " + ticks, x.neighbour(0, 0, 1, 1) ? 1 : 0, ticks < 4 ? 1 : 0);
            x.hello(0, 0, 63);
            Check.same("named after " + ticks, x.neighbour(1, 0, 1, 0) ? 1 : 0, ticks < 4 ? 1 : 0);
        }
    }

    /** "for 4 TICKS from now on": a hello at any time before begins them anew, and adds nothing to them. */
    private static void fourTicksFromTheLatest() {
        for (int before = 0; before < 4; before++) {
            AreaRouters x = Check.pair();
            Check.ticks(x, before);
            x.hello(1, 0, 63);
            x.hello(1, 0, 63);
            Check.ticks(x, 3);
            Check.yes("three ticks after the latest", x.neighbour(0, 0, 1, 1));
            x.tick();
            Check.no("four ticks after the latest", x.neighbour(0, 0, 1, 1));
            x.tick();
            Check.no("and not heard again", x.neighbour(0, 0, 1, 1));
        }
    }

    /** "others that are attached to c and are meant receive it" */
    private static void notMeantIsNotHeard() {
        AreaRouters x = Check.pair();
        Check.ticks(x, 3);
        Check.same("0 is not meant", x.hello(1, 0, 62), 0);
        x.tick();
        Check.no("so it hears 1 no longer", x.neighbour(0, 0, 1, 1));
        x = attached(0, 2);
        x.hello(0, 0, 63);
        x.attach(2, 0, 1, 0);
        x.hello(2, 0, 63);
        x.hello(0, 0, 4);
        Check.no("attached after the first hello: 2 hears 0 by the second", x.neighbour(0, 0, 1, 2));
        x.hello(2, 0, 63);
        Check.yes("and names it", x.neighbour(0, 0, 1, 2));
    }

    /** "it names all whom r hears there on that level as it is sent" */
    private static void namesWhomItHearsAsItIsSent() {
        AreaRouters x = attached(0, 2);
        x.hello(1, 0, 63);
        Check.ticks(x, 3);
        x.hello(0, 0, 63);
        Check.yes("heard three ticks ago: named", x.neighbour(1, 0, 1, 0));
        x.tick();
        x.hello(0, 0, 63);
        Check.no("heard four ticks ago: not named", x.neighbour(1, 0, 1, 0));
        x.hello(1, 0, 63);
        Check.no("what 0 hears later is not in what it sent", x.neighbour(1, 0, 1, 0));
    }

    /** "receive it, by number": no receiver's noting changes what the next one is told. */
    private static void receivedByNumber() {
        AreaRouters x = attached(3, 4);
        x.hello(3, 3, 63);
        Check.same("all three", x.hello(0, 3, 63), 3);
        Check.yes("3 is named", x.neighbour(3, 3, 1, 0));
        Check.no("1 is not", x.neighbour(1, 3, 1, 0));
        Check.no("2 is not", x.neighbour(2, 3, 1, 0));
        Check.no("the sender hears nobody more", x.neighbour(0, 3, 1, 1));
    }

    /** "the latest hello that it noted of n named it" */
    private static void latestHelloDecides() {
        AreaRouters x = Check.pair();
        Check.ticks(x, 2);
        x.hello(0, 0, 63);
        Check.yes("named", x.neighbour(1, 0, 1, 0));
        Check.ticks(x, 2);
        x.hello(0, 0, 0);
        Check.yes("one that it did not note changes nothing", x.neighbour(1, 0, 1, 0));
        x.hello(0, 0, 63);
        Check.no("heard, but named no more", x.neighbour(1, 0, 1, 0));
        x.hello(1, 0, 63);
        Check.yes("1 hears 0 all the same, and names it", x.neighbour(0, 0, 1, 1));
        x.hello(0, 0, 63);
        Check.yes("named again", x.neighbour(1, 0, 1, 0));
    }

    /** "(with a level in common or not)"; "for each level that both have" */
    private static void levelInCommonOrNot() {
        for (int a = 1; a <= 3; a++) {
            for (int b = 1; b <= 3; b++) {
                AreaRouters x = new AreaRouters();
                x.place(0, 1, a);
                x.place(5, 1, b);
                x.attach(0, 0, 1, 0);
                x.attach(5, 0, 1, 0);
                Check.same("received", x.hello(0, 0, 63), 1);
                Check.same("received", x.hello(5, 0, 63), 1);
                Check.same("received", x.hello(0, 0, 63), 1);
                for (int l = 1; l <= 2; l++) {
                    int due = (a & b & l) != 0 ? 1 : 0;
                    Check.same("0 to 5", x.neighbour(5, 0, l, 0) ? 1 : 0, due);
                    Check.same("5 to 0", x.neighbour(0, 0, l, 5) ? 1 : 0, due);
                }
            }
        }
    }

    /** "(level 1 only if their areas are the same)" */
    private static void levelOneOfOneAreaOnly() {
        for (int a = 0; a < 3; a++) {
            for (int b = 0; b < 3; b++) {
                AreaRouters x = new AreaRouters();
                x.place(2, a, 3);
                x.place(4, b, 3);
                x.attach(2, 5, 1, 0);
                x.attach(4, 5, 1, 0);
                Check.greet(x, 5, 2, 4);
                Check.same("level 1", x.neighbour(2, 5, 1, 4) ? 1 : 0, a == b ? 1 : 0);
                Check.yes("level 2", x.neighbour(2, 5, 2, 4));
            }
        }
    }

    private static void heardOnThatCircuitOnly() {
        AreaRouters x = attached(0, 2);
        x.attach(0, 1, 1, 0);
        x.attach(1, 1, 1, 0);
        x.hello(0, 0, 63);
        x.hello(1, 1, 63);
        Check.no("heard on another circuit: not named on this", x.neighbour(0, 1, 1, 1));
        x.hello(1, 0, 63);
        Check.yes("heard on this circuit: named", x.neighbour(0, 0, 1, 1));
    }

    /** "What is said of a level l (1 or 2) below holds for each by itself." */
    private static void heardAtEachLevelByItself() {
        AreaRouters x = new AreaRouters();
        x.place(0, 0, 3);
        x.place(1, 0, 3);
        x.place(2, 1, 2);
        x.place(3, 0, 1);
        for (int r = 0; r < 4; r++) {
            x.attach(r, 0, 1, r);
        }
        Check.greet(x, 0, 0, 1, 2, 3);
        Check.same("speaker at level 1", x.speaker(0, 0, 1), 3);
        Check.same("speaker at level 2", x.speaker(0, 0, 2), 2);
        Check.same("2 has no level 1", x.speaker(2, 0, 1), -1);
        Check.same("3 has no level 2", x.speaker(3, 0, 2), -1);
    }

    /** "A circuit is SHARED when more than two are attached to it": the names that links have. */
    private static void sharedForLinks() {
        for (int count = 1; count <= 4; count++) {
            AreaRouters x = attached(1, count);
            Check.greet(x, 1, 0, Math.min(1, count - 1));
            Check.same("descriptions of the last", x.describe(count > 1 ? 1 : 0), count > 2 ? 2 : 1);
            x.describe(0);
            int due = count == 1 ? -1 : count == 2 ? 7 + 64 : 7 + 2 + 64;
            Check.same("0's link with " + count, x.description(0, 1, 0, 5), due);
            Check.same("the circuit with " + count, x.description(1, 1, 9, 4), count > 2 ? 2 : -1);
        }
    }

    /** "on a shared circuit it is not due any more then" */
    private static void sharedForDue() {
        for (int count = 1; count <= 4; count++) {
            AreaRouters x = attached(1, count);
            x.describe(0);
            Check.same("due", x.marks(0, 1, 0), 2);
            Check.same("sent", x.spread(0, 1, 1, 63), 1);
            Check.same("due after it with " + count, x.marks(0, 1, 0), count > 2 ? 0 : 2);
            Check.same("sent again with " + count, x.spread(0, 1, 1, 63), count > 2 ? 0 : 1);
        }
    }

    /** "and, if c is not shared, ASKED on c" */
    private static void sharedForAsked() {
        for (int count = 2; count <= 4; count++) {
            AreaRouters x = attached(1, count);
            Check.greet(x, 1, 0, 1);
            x.describe(0);
            x.spread(0, 1, 1, 63);
            Check.same("received with " + count, x.description(1, 1, 0, 0), 1);
            Check.same("asked with " + count, x.marks(1, 1, 0), count > 2 ? 0 : 64 * 2);
        }
    }

    /** Attached is enough to share a circuit; no hello is needed, nor a level in common. */
    private static void aSilentThirdShares() {
        AreaRouters x = Check.pair();
        x.place(5, 2, 2);
        x.describe(0);
        x.spread(0, 0, 1, 63);
        x.request(1, 0, 1, 0);
        x.attach(5, 0, 1, 100);
        x.spread(0, 0, 1, 63);
        Check.same("not due any more", x.marks(0, 1, 0), 0);
        Check.same("the same comes again: not asked", x.marks(1, 1, 0), 0);
        Check.same("other links: the name of the circuit", x.describe(0), 1);
        Check.same("of the speaker among the neighbours", x.description(0, 1, 0, 5), 8 + 64 * 10);
        Check.same("and the circuit by its speaker", x.describe(1), 2);
        Check.same("without the third", x.description(1, 1, 8, 4), 2);
        Check.same("5 speaks for nobody", x.describe(5), 1);
    }

    /** "of r and its neighbours there the one with the greatest priority" */
    private static void greatestPriority() {
        int[][] pairs = {{0, 1}, {1, 2}, {99, 100}, {0, 100}};
        for (int[] pair : pairs) {
            AreaRouters x = new AreaRouters();
            x.attach(0, 0, 1, pair[1]);
            x.attach(1, 0, 60, pair[0]);
            x.attach(5, 0, 60, pair[0]);
            Check.greet(x, 0, 0, 1, 5);
            Check.same("r itself", x.speaker(0, 0, 1), 0);
            Check.same("as another sees it", x.speaker(1, 0, 1), 0);
            Check.same("as the last sees it", x.speaker(5, 0, 1), 0);
        }
    }

    /** "of several the one with the greatest number" */
    private static void greatestNumberOfSeveral() {
        for (int priority = 0; priority <= 100; priority += 50) {
            AreaRouters x = new AreaRouters();
            for (int r = 2; r < 6; r++) {
                x.attach(r, 0, 1, r == 5 && priority > 0 ? priority - 1 : priority);
            }
            Check.greet(x, 0, 2, 3, 4, 5);
            for (int r = 2; r < 6; r++) {
                Check.same("speaker", x.speaker(r, 0, 1), priority > 0 ? 4 : 5);
            }
        }
    }

    /** "(as it is now)" */
    private static void priorityAsItIsNow() {
        AreaRouters x = Check.trio();
        Check.same("at first", x.speaker(0, 2, 1), 2);
        x.attach(0, 2, 3, 9);
        Check.same("as great, a lesser number", x.speaker(1, 2, 1), 2);
        x.attach(0, 2, 3, 10);
        Check.same("greater, without another hello", x.speaker(1, 2, 1), 0);
        x.attach(0, 2, 3, 101);
        Check.same("a refused one is none", x.speaker(1, 2, 1), 0);
        x.attach(0, 2, 3, 0);
        Check.same("no more", x.speaker(1, 2, 1), 2);
    }

    /** One that r hears but that did not name it does not speak for it; nor one that is heard no more. */
    private static void speakerAmongNeighboursOnly() {
        AreaRouters x = attached(0, 3);
        Check.same("alone", x.speaker(0, 0, 1), 0);
        x.hello(2, 0, 63);
        Check.same("heard, not named", x.speaker(0, 0, 1), 0);
        x.hello(0, 0, 63);
        Check.same("2 was named: it has a neighbour, and speaks", x.speaker(2, 0, 1), 2);
        x.hello(2, 0, 63);
        Check.same("named", x.speaker(0, 0, 1), 2);
        Check.ticks(x, 3);
        Check.same("three ticks", x.speaker(0, 0, 1), 2);
        x.tick();
        Check.same("four ticks", x.speaker(0, 0, 1), 0);
    }
}
