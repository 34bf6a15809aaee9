/** The edges of the term WAYS and of promises 14 and 15; each test stands for the words above it. */
public final class WayEdgesTest {
    public static void main(String[] args) {
        emptyBases();
        longestChain();
        linkBack();
        linkBackOfACircuit();
        lifeAboveZero();
        lifeOfTheCircuit();
        cheaperOfTwoLinks();
        leastCost();
        leastFirstHop();
        leastFirstHopThoughLonger();
        firstHopBehindACircuit();
        firstHopOfAllAsCheapWays();
        cheapestThroughTheFirstAndTheLast();
        levelOneFirst();
        elseLevelTwo();
        ownAreaAtLevelTwoAlone();
        nearestOfTheArea();
        leastNumberOfTheArea();
        nobodyOfTheArea();
        nearestExit();
        leastNumberOfExits();
        noExit();
        exitIsForLevelOneAlone();
        exitAsDescribed();
        everyRouterMayBeExit();
        everyRouterMayBeOfTheArea();
        traceOfNone();
        traceEndsWhereOneHasNone();
        traceRoundAndRound();
        Check.finish();
    }

    private static void join(AreaRouters x, int c, int a, int metricA, int b, int metricB) {
        x.attach(a, c, metricA, 0);
        x.attach(b, c, metricB, 0);
        Check.greet(x, c, a, b);
    }

    /** All describe, and what is due goes all the way. */
    private static void settle(AreaRouters x) {
        for (int r = 0; r < 6; r++) {
            x.describe(r);
        }
        for (int round = 0; round < 5; round++) {
            for (int i = 0; i < 72; i++) {
                int r = i % 6;
                int c = i / 6 % 6;
                int l = 1 + i / 36;
                if (x.speaker(r, c, l) >= 0) {
                    x.spread(r, c, l, 63);
                }
            }
        }
    }

    private static void checkWay(String what, AreaRouters x, int r, int d, int hop, int cost) {
        Check.same(what + ": first hop", x.route(r, d) % 8, hop);
        Check.same(what + ": cost", x.route(r, d) / 8, cost);
    }

    /** "-1 when there is none": with nothing in the base, with r's own alone, with the other's alone */
    private static void emptyBases() {
        AreaRouters x = Check.pair();
        Check.same("nothing", x.route(0, 1), -1);
        x.describe(0);
        Check.same("its own alone", x.route(0, 1), -1);
        AreaRouters y = Check.pair();
        y.describe(1);
        y.spread(1, 0, 1, 63);
        Check.same("the other's alone", y.route(0, 1), -1);
        y.describe(0);
        Check.same("both", y.route(0, 1), 1 + 8 * 10);
    }

    /** "The COST of a way is the sum of its links' metrics": of the greatest ones; a trace of five hops */
    private static void longestChain() {
        AreaRouters x = new AreaRouters();
        for (int c = 0; c < 5; c++) {
            join(x, c, c, 60, c + 1, 1);
        }
        settle(x);
        for (int d = 1; d < 6; d++) {
            checkWay("up", x, 0, d, 1, 60 * d);
            Check.same("hops up", x.trace(0, d), d);
            checkWay("down", x, d, 0, d - 1, d);
            Check.same("hops down", x.trace(d, 0), d);
        }
    }

    /** "counts only if the other's description has a link back, with whatever metric" */
    private static void linkBack() {
        AreaRouters x = new AreaRouters();
        join(x, 0, 0, 1, 1, 60);
        settle(x);
        checkWay("whatever metric back", x, 0, 1, 1, 1);
        Check.ticks(x, 3);
        x.hello(1, 0, 63);
        x.hello(1, 0, 63);
        x.tick();
        x.describe(1);
        Check.same("1 has no neighbour and no link", x.description(1, 1, 7, 4), 0);
        x.spread(1, 0, 1, 63);
        Check.same("0 has that", x.description(0, 1, 7, 4), 0);
        Check.same("0's link to 1 is there", x.description(0, 1, 0, 5), 7 + 64);
        Check.same("but there is none back", x.route(0, 1), -1);
    }

    private static void linkBackOfACircuit() {
        AreaRouters x = Check.trio();
        settle(x);
        checkWay("over the circuit", x, 0, 1, 1, 3);
        Check.ticks(x, 3);
        x.hello(0, 2, 63);
        x.hello(2, 2, 63);
        x.tick();
        x.describe(2);
        x.spread(2, 2, 1, 63);
        Check.same("the circuit has no link to 1", x.description(0, 1, 17, 4), 2);
        Check.same("1's link to the circuit is there", x.description(0, 1, 7, 5), 17 + 64 * 4);
        Check.same("no way to 1", x.route(0, 1), -1);
        checkWay("but to 2", x, 0, 2, 2, 3);
    }

    /** "joined by the links of descriptions with life above 0" */
    private static void lifeAboveZero() {
        for (int older = 0; older < 2; older++) {
            AreaRouters x = Check.pair();
            x.describe(older);
            x.spread(older, 0, 1, 63);
            x.tick();
            x.describe(1 - older);
            x.spread(1 - older, 0, 1, 63);
            Check.ticks(x, 18);
            Check.same("a life of 1", x.description(0, 1, 7 * older, 1), 1);
            checkWay("lives of 1 and 2", x, 0, 1, 1, 10);
            x.tick();
            Check.same("lives of 0 and 1", x.route(0, 1), -1);
            Check.same("and back", x.route(1, 0), -1);
            Check.same("no trace", x.trace(0, 1), -1);
        }
    }

    private static void lifeOfTheCircuit() {
        AreaRouters x = Check.trio();
        settle(x);
        x.attach(2, 2, 5, 0);
        x.describe(2);
        Check.same("2's own is ended", x.route(2, 0), -1);
        checkWay("0 has it alive", x, 0, 2, 2, 3);
        x.spread(2, 2, 1, 63);
        Check.same("0 has it ended", x.route(0, 2), -1);
        x.describe(1);
        x.describe(0);
        x.spread(1, 2, 1, 63);
        x.spread(0, 2, 1, 63);
        checkWay("the circuit of 1", x, 0, 2, 2, 3);
    }

    /** "of two links to one name the cheaper one counts", wherever it stands among them */
    private static void cheaperOfTwoLinks() {
        for (int cheap = 0; cheap < 6; cheap++) {
            AreaRouters x = new AreaRouters();
            for (int c = 0; c < 6; c++) {
                join(x, c, 2, c == cheap ? 59 : 60, 3, 6 - c);
            }
            settle(x);
            checkWay("2 to 3", x, 2, 3, 3, 59);
            checkWay("3 to 2", x, 3, 2, 2, 1);
        }
    }

    /** "The way to (d, 0) has the least cost" */
    private static void leastCost() {
        for (int straight = 19; straight <= 21; straight++) {
            AreaRouters x = new AreaRouters();
            join(x, 0, 0, straight, 1, 1);
            join(x, 1, 0, 10, 2, 1);
            join(x, 2, 2, 10, 1, 1);
            settle(x);
            checkWay("by one", x, 0, 1, straight <= 20 ? 1 : 2, Math.min(straight, 20));
        }
    }

    /** "of several the least first hop" */
    private static void leastFirstHop() {
        for (int dear = 0; dear <= 3; dear++) {
            AreaRouters x = new AreaRouters();
            for (int n = 1; n <= 3; n++) {
                join(x, n - 1, 5, 7, n, 7);
                join(x, n + 2, n, n == dear ? 8 : 7, 4, 7);
            }
            settle(x);
            checkWay("all but " + dear, x, 5, 4, dear == 1 ? 2 : 1, 14);
        }
    }

    /** The least first hop counts, not the fewest hops. */
    private static void leastFirstHopThoughLonger() {
        AreaRouters x = new AreaRouters();
        join(x, 0, 4, 30, 5, 1);
        join(x, 1, 4, 10, 3, 1);
        join(x, 2, 3, 10, 2, 1);
        join(x, 3, 2, 10, 5, 1);
        settle(x);
        checkWay("three hops as cheap as one", x, 4, 5, 3, 30);
        Check.same("hops", x.trace(4, 5), 3);
    }

    /** "the FIRST HOP of a way is the first name of part 0 behind (r, 0)": not the speaker of a circuit */
    private static void firstHopBehindACircuit() {
        AreaRouters x = new AreaRouters();
        for (int r = 0; r < 4; r++) {
            x.attach(r, 2, 5 + r, r == 3 ? 1 : 0);
        }
        Check.greet(x, 2, 0, 1, 2, 3);
        join(x, 4, 2, 1, 5, 1);
        settle(x);
        for (int r = 0; r < 4; r++) {
            for (int d = 0; d < 4; d++) {
                if (r != d) {
                    checkWay("over the circuit", x, r, d, d, 5 + r);
                    Check.same("one hop", x.trace(r, d), 1);
                }
            }
        }
        checkWay("behind 2", x, 0, 5, 2, 6);
        Check.same("two hops", x.trace(0, 5), 2);
    }

    /**
     * Router 0 reaches router 2 at cost 10, straight over a circuit and through another one; what is behind 2 has
     * the least first hop of both, whether the circuit's name comes before 2's or behind it.
     */
    private static void firstHopOfAllAsCheapWays() {
        for (int speaker = 1; speaker <= 5; speaker += 4) {
            AreaRouters x = new AreaRouters();
            x.attach(0, 0, 10, 0);
            x.attach(2, 0, 10, 0);
            x.attach(speaker, 0, 10, 1);
            Check.greet(x, 0, 0, 2, speaker);
            join(x, 1, 0, 4, 3, 4);
            join(x, 2, 3, 6, 2, 6);
            join(x, 3, 2, 1, 4, 1);
            settle(x);
            Check.same("speaker", x.speaker(0, 0, 1), speaker);
            checkWay("to 2", x, 0, 2, 2, 10);
            checkWay("behind 2", x, 0, 4, 2, 11);
            checkWay("to 3", x, 0, 3, 3, 4);
        }
    }

    /** The cheapest way goes through the one with the least number, and through the one with the greatest. */
    private static void cheapestThroughTheFirstAndTheLast() {
        for (int near = 0; near <= 5; near += 5) {
            AreaRouters x = new AreaRouters();
            join(x, 0, 3, 5, near, 1);
            join(x, 1, near, 5, 2, 1);
            join(x, 2, 3, 11, 2, 1);
            join(x, 3, 2, 5, 4, 1);
            join(x, 4, 4, 5, 1, 1);
            settle(x);
            checkWay("to 2", x, 3, 2, near, 10);
            checkWay("to 4", x, 3, 4, near, 15);
            checkWay("to 1", x, 3, 1, near, 20);
            Check.same("hops", x.trace(3, 1), 4);
        }
    }

    /** "if r has level 1 and d's area is r's own .. and there is a way at level 1: that one", though dearer */
    private static void levelOneFirst() {
        AreaRouters x = new AreaRouters();
        x.place(0, 1, 3);
        x.place(1, 1, 3);
        x.place(2, 1, 1);
        x.place(3, 0, 2);
        join(x, 0, 0, 60, 2, 1);
        join(x, 1, 2, 60, 1, 1);
        join(x, 2, 0, 1, 3, 1);
        join(x, 3, 3, 1, 1, 1);
        settle(x);
        checkWay("level 1", x, 0, 1, 2, 120);
        checkWay("its neighbour", x, 0, 2, 2, 60);
        checkWay("another area", x, 0, 3, 3, 1);
    }

    /** "Else if r has level 2": also to its own area, when level 1 has no way */
    private static void elseLevelTwo() {
        AreaRouters x = new AreaRouters();
        x.place(0, 1, 3);
        x.place(1, 1, 3);
        x.place(2, 1, 1);
        x.place(3, 0, 2);
        join(x, 2, 0, 1, 3, 1);
        join(x, 3, 3, 1, 1, 1);
        settle(x);
        checkWay("to 1 over 3", x, 0, 1, 3, 2);
        checkWay("to 2 by 1", x, 0, 2, 3, 2);
        checkWay("back", x, 1, 2, 3, 2);
        Check.same("there is no way to 2 from 2's side", x.route(2, 0), -1);
    }

    private static void ownAreaAtLevelTwoAlone() {
        AreaRouters x = new AreaRouters();
        x.place(0, 2, 2);
        x.place(1, 2, 2);
        x.place(2, 2, 1);
        join(x, 0, 0, 4, 1, 5);
        settle(x);
        checkWay("level 2", x, 0, 1, 1, 4);
        checkWay("one of level 1 in the area", x, 0, 2, 1, 4);
        Check.same("r itself is not it", x.trace(0, 2), -1);
    }

    /** 0 of area 0 with 1 .. 3 of area 1 round it at level 2; 5 is of area 1, with level 1. */
    private static AreaRouters star(int metric1, int metric2, int metric3) {
        AreaRouters x = new AreaRouters();
        x.place(0, 0, 2);
        x.place(5, 1, 1);
        int[] metrics = {metric1, metric2, metric3};
        for (int n = 1; n <= 3; n++) {
            x.place(n, 1, 2);
            join(x, n, 0, metrics[n - 1], n, 1);
        }
        settle(x);
        return x;
    }

    /** "to that router of d's area .. which has the least cost" (d itself may be it), d itself or not */
    private static void nearestOfTheArea() {
        int[] ds = {1, 2, 3, 5};
        for (int d : ds) {
            checkWay("1 is nearest", star(9, 10, 10), 0, d, 1, 9);
            checkWay("2 is nearest", star(10, 9, 10), 0, d, 2, 9);
            checkWay("3 is nearest", star(10, 10, 9), 0, d, 3, 9);
        }
    }

    /** "of several the least number": of the routers that may be chosen, not of their first hops */
    private static void leastNumberOfTheArea() {
        int[] ds = {1, 2, 3, 5};
        for (int d : ds) {
            checkWay("all three", star(9, 9, 9), 0, d, 1, 9);
            checkWay("2 and 3", star(10, 9, 9), 0, d, 2, 9);
        }
        AreaRouters x = new AreaRouters();
        for (int r = 0; r < 6; r++) {
            x.place(r, r == 2 || r == 4 ? 1 : 0, 2);
        }
        join(x, 0, 0, 10, 4, 1);
        join(x, 1, 0, 5, 5, 1);
        join(x, 2, 5, 5, 2, 1);
        join(x, 3, 0, 2, 1, 1);
        join(x, 4, 1, 8, 4, 1);
        settle(x);
        checkWay("2 by 5 before 4 by 1", x, 0, 4, 5, 10);
        x.attach(5, 2, 6, 0);
        settle(x);
        checkWay("4 by the least hop", x, 0, 2, 1, 10);
    }

    /** "Otherwise none." */
    private static void nobodyOfTheArea() {
        AreaRouters x = star(1, 1, 1);
        x.place(4, 2, 3);
        Check.same("area 2 is nowhere", x.route(0, 4), -1);
        Check.same("nor its trace", x.trace(0, 4), -1);
        AreaRouters y = new AreaRouters();
        y.place(0, 0, 2);
        y.place(1, 1, 2);
        y.describe(0);
        Check.same("r itself is not it", y.route(0, 5), -1);
    }

    /** 0 with level 1 alone and 1 .. 3 round it in area 0; those in the set have a neighbour in area 1. */
    private static AreaRouters exits(int set, int metric1, int metric2, int metric3) {
        AreaRouters x = new AreaRouters();
        x.place(5, 1, 2);
        int[] metrics = {metric1, metric2, metric3};
        for (int n = 1; n <= 3; n++) {
            x.place(n, 0, 3);
            join(x, n - 1, 0, metrics[n - 1], n, 1);
            if ((set & 1 << n) != 0) {
                join(x, n + 2, n, 1, 5, 1);
            }
        }
        settle(x);
        return x;
    }

    /** "the way at level 1 to a router whose description of part 0 has EXIT, chosen alike" */
    private static void nearestExit() {
        checkWay("1 is nearest", exits(14, 9, 10, 10), 0, 5, 1, 9);
        checkWay("2 is nearest", exits(14, 10, 9, 10), 0, 5, 2, 9);
        checkWay("3 is nearest", exits(14, 10, 10, 9), 0, 5, 3, 9);
        checkWay("3 alone, though farthest", exits(8, 1, 1, 60), 0, 5, 3, 60);
        Check.same("hops", exits(8, 1, 1, 60).trace(0, 5), 2);
        checkWay("one of its own area without a way", exits(8, 1, 1, 60), 0, 4, 3, 60);
        checkWay("but not one that has a way", exits(8, 1, 1, 60), 0, 1, 1, 1);
    }

    private static void leastNumberOfExits() {
        checkWay("all three", exits(14, 9, 9, 9), 0, 5, 1, 9);
        checkWay("2 and 3", exits(12, 9, 9, 9), 0, 5, 2, 9);
        checkWay("1 and 3", exits(10, 9, 9, 9), 0, 5, 1, 9);
    }

    private static void noExit() {
        AreaRouters x = exits(0, 1, 1, 1);
        Check.same("no exit", x.route(0, 5), -1);
        Check.same("no exit", x.trace(0, 5), -1);
        AreaRouters y = exits(2, 1, 1, 1);
        checkWay("an exit", y, 0, 5, 1, 1);
        Check.ticks(y, 19);
        checkWay("with a life of 1", y, 0, 5, 1, 1);
        y.tick();
        Check.same("with a life of 0", y.route(0, 5), -1);
    }

    /** "Else, if r has level 1 alone": one with both levels does not go to an exit */
    private static void exitIsForLevelOneAlone() {
        AreaRouters x = new AreaRouters();
        x.place(0, 0, 3);
        x.place(1, 0, 3);
        x.place(2, 1, 2);
        x.place(4, 2, 1);
        join(x, 0, 0, 1, 1, 1);
        join(x, 1, 1, 1, 2, 1);
        settle(x);
        Check.same("1 is an exit", x.description(0, 1, 7, 2), 1);
        checkWay("level 2 knows area 1", x, 0, 2, 1, 2);
        Check.same("nobody knows area 2", x.route(0, 4), -1);
        Check.same("nor does the exit itself", x.route(1, 4), -1);
    }

    /** EXIT is what the description says, until another one comes. */
    private static void exitAsDescribed() {
        AreaRouters x = exits(2, 1, 1, 1);
        Check.ticks(x, 4);
        x.describe(1);
        checkWay("0 has not heard of it", x, 0, 5, 1, 1);
        Check.same("1 has no way any more", x.route(1, 5), -1);
        Check.same("so the trace ends", x.trace(0, 5), -1);
    }

    private static void everyRouterMayBeExit() {
        for (int exit = 0; exit < 6; exit++) {
            int from = (exit + 1) % 6;
            int to = (exit + 2) % 6;
            AreaRouters x = new AreaRouters();
            x.place(exit, 1, 3);
            x.place(from, 1, 1);
            x.place(to, 2, 2);
            join(x, 0, from, 7, exit, 7);
            join(x, 1, exit, 7, to, 7);
            settle(x);
            checkWay("by " + exit, x, from, to, exit, 7);
            Check.same("hops", x.trace(from, to), 2);
        }
    }

    private static void everyRouterMayBeOfTheArea() {
        for (int entry = 0; entry < 6; entry++) {
            int from = (entry + 1) % 6;
            int to = (entry + 2) % 6;
            AreaRouters x = new AreaRouters();
            x.place(entry, 1, 3);
            x.place(from, 2, 2);
            x.place(to, 1, 1);
            join(x, 0, from, 7, entry, 7);
            join(x, 1, entry, 7, to, 7);
            settle(x);
            checkWay("by " + entry, x, from, to, entry, 7);
            Check.same("hops", x.trace(from, to), 2);
        }
    }

    /** "0 when d is r. -1 when there is no such router." */
    private static void traceOfNone() {
        AreaRouters x = new AreaRouters();
        for (int r = -2; r < 8; r++) {
            for (int d = -2; d < 8; d++) {
                boolean isRouter = r >= 0 && r < 6;
                Check.same("trace", x.trace(r, d), isRouter && r == d ? 0 : -1);
                Check.same("route", x.route(r, d), -1);
            }
        }
    }

    /** "-1 when one has none": the first, one between, the last before d */
    private static void traceEndsWhereOneHasNone() {
        for (int without = 0; without < 3; without++) {
            AreaRouters x = new AreaRouters();
            for (int c = 0; c < 3; c++) {
                join(x, c, c, 1, c + 1, 1);
            }
            settle(x);
            Check.same("three hops", x.trace(0, 3), 3);
            Check.ticks(x, 4);
            x.describe(without);
            Check.same("it has no neighbour", x.route(without, 3), -1);
            for (int r = 0; r < 3; r++) {
                Check.same("from " + r, x.trace(r, 3), r <= without ? -1 : 3 - r);
            }
        }
    }

    /** "or after 10 hops": where two, or three, send it to one another */
    private static void traceRoundAndRound() {
        AreaRouters x = new AreaRouters();
        join(x, 0, 0, 1, 1, 1);
        join(x, 1, 1, 1, 2, 1);
        join(x, 2, 2, 1, 0, 1);
        join(x, 3, 0, 60, 3, 1);
        join(x, 4, 1, 60, 3, 1);
        join(x, 5, 2, 60, 3, 1);
        settle(x);
        for (int r = 0; r < 3; r++) {
            Check.same("straight", x.trace(r, 3), 1);
        }
        // Each believes that the next one is near to 3, and has not heard of the next one's change.
        x.attach(1, 4, 1, 0);
        x.describe(1);
        x.spread(1, 0, 1, 63);
        x.attach(1, 4, 60, 0);
        x.describe(1);
        checkWay("0 by 1", x, 0, 3, 1, 2);
        Check.same("1 goes straight", x.trace(0, 3), 2);
        x.attach(2, 5, 1, 0);
        x.describe(2);
        x.spread(2, 1, 1, 63);
        x.attach(2, 5, 60, 0);
        x.describe(2);
        checkWay("1 by 2", x, 1, 3, 2, 2);
        Check.same("three hops", x.trace(0, 3), 3);
        x.attach(0, 3, 1, 0);
        x.describe(0);
        x.spread(0, 2, 1, 63);
        x.attach(0, 3, 60, 0);
        x.describe(0);
        checkWay("2 by 0", x, 2, 3, 0, 2);
        checkWay("0 by 1 still", x, 0, 3, 1, 2);
        for (int r = 0; r < 3; r++) {
            Check.same("round and round", x.trace(r, 3), -1);
        }
        Check.same("back from 3", x.trace(3, 0), 1);
    }
}
