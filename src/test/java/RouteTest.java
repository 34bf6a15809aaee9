/** Promises 14 and 15: route, trace. */
public final class RouteTest {
    public static void main(String[] args) {
        straight();
        needsLinkBack();
        leastCostThenLeastHop();
        cheaperOfTwoLinks();
        straightOrThroughNeighbour();
        behindBoth();
        toAnotherArea();
        toOwnAreaAtLevelTwo();
        nearestExit();
        deadDescriptions();
        loop();
        wrongInputs();
        Check.finish();
    }

    /** Attaches two routers to a circuit of their own and makes them neighbours. */
    private static void join(AreaRouters x, int c, int a, int metricA, int b, int metricB) {
        x.attach(a, c, metricA, 0);
        x.attach(b, c, metricB, 0);
        Check.greet(x, c, a, b);
    }

    /** All describe and spread until all have the same. */
    private static void settle(AreaRouters x) {
        for (int r = 0; r < 6; r++) {
            x.describe(r);
        }
        for (int round = 0; round < 5; round++) {
            for (int r = 0; r < 6; r++) {
                for (int c = 0; c < 6; c++) {
                    for (int l = 1; l <= 2; l++) {
                        if (x.speaker(r, c, l) >= 0) {
                            x.spread(r, c, l, 63);
                        }
                    }
                }
            }
        }
    }

    private static void straight() {
        AreaRouters x = new AreaRouters();
        join(x, 0, 0, 1, 1, 60);
        join(x, 1, 1, 2, 2, 30);
        join(x, 2, 2, 4, 3, 15);
        settle(x);
        Check.same("0 to 1", x.route(0, 1), 1 + 8);
        Check.same("0 to 2", x.route(0, 2), 1 + 8 * 3);
        Check.same("0 to 3", x.route(0, 3), 1 + 8 * 7);
        Check.same("3 to 0", x.route(3, 0), 2 + 8 * 105);
        Check.same("trace 0 to 3", x.trace(0, 3), 3);
        Check.same("trace 3 to 1", x.trace(3, 1), 2);
        Check.same("itself", x.route(2, 2), -1);
        Check.same("trace to itself", x.trace(2, 2), 0);
        Check.same("one without ways", x.route(0, 4), -1);
        Check.same("trace to one without ways", x.trace(0, 4), -1);
    }

    private static void needsLinkBack() {
        AreaRouters x = Check.pair();
        x.describe(0);
        x.describe(1);
        x.spread(0, 0, 1, 63);
        Check.same("0 has not 1's", x.route(0, 1), -1);
        Check.same("1 has both", x.route(1, 0), 8 * 20);
        Check.ticks(x, 4);
        x.describe(0);
        x.hello(1, 0, 63);
        x.hello(0, 0, 63);
        x.spread(0, 0, 1, 63);
        Check.same("0's new one was taken by a neighbour", x.description(1, 1, 0, 4), 0);
        Check.same("no link back", x.route(1, 0), -1);
    }

    private static void leastCostThenLeastHop() {
        AreaRouters x = new AreaRouters();
        join(x, 0, 0, 10, 4, 1);
        join(x, 1, 4, 10, 5, 1);
        join(x, 2, 0, 15, 2, 1);
        join(x, 3, 2, 5, 5, 1);
        join(x, 4, 0, 12, 1, 1);
        join(x, 5, 1, 9, 5, 1);
        settle(x);
        Check.same("of two ways at 20 by the least hop", x.route(0, 5), 2 + 8 * 20);
        x.attach(1, 5, 8, 0);
        settle(x);
        Check.same("three ways at 20", x.route(0, 5), 1 + 8 * 20);
        x.attach(4, 1, 9, 0);
        settle(x);
        Check.same("the cheapest", x.route(0, 5), 4 + 8 * 19);
        Check.same("trace", x.trace(0, 5), 2);
    }

    private static void cheaperOfTwoLinks() {
        AreaRouters x = new AreaRouters();
        join(x, 0, 0, 30, 1, 50);
        join(x, 1, 0, 20, 1, 60);
        join(x, 2, 0, 25, 1, 55);
        settle(x);
        Check.same("0 to 1", x.route(0, 1), 1 + 8 * 20);
        Check.same("1 to 0", x.route(1, 0), 8 * 50);
    }

    /**
     * Router 0 reaches the shared circuit 0 at cost 10, straight and through router 2: behind it router 1
     * is nearest by itself, router 3 through 2.
     */
    private static void straightOrThroughNeighbour() {
        AreaRouters x = new AreaRouters();
        x.attach(0, 0, 10, 0);
        x.attach(1, 0, 10, 0);
        x.attach(2, 0, 5, 0);
        x.attach(3, 0, 10, 1);
        Check.greet(x, 0, 0, 1, 2, 3);
        join(x, 1, 0, 5, 2, 5);
        settle(x);
        Check.same("straight", x.route(0, 1), 1 + 8 * 10);
        Check.same("through 2", x.route(0, 3), 2 + 8 * 10);
        Check.same("to 2", x.route(0, 2), 2 + 8 * 5);
        Check.same("trace", x.trace(0, 3), 2);
        Check.same("the speaker's way", x.route(3, 0), 8 * 10);
        Check.same("on from 1", x.route(1, 2), 2 + 8 * 10);
    }

    /** Router 0 reaches router 1 at cost 10 through router 3 and over the circuit of speaker 5; 2 is behind 1. */
    private static void behindBoth() {
        AreaRouters x = new AreaRouters();
        x.attach(0, 0, 10, 0);
        x.attach(1, 0, 10, 0);
        x.attach(5, 0, 10, 0);
        Check.greet(x, 0, 0, 1, 5);
        join(x, 1, 0, 4, 3, 4);
        join(x, 2, 3, 6, 1, 6);
        join(x, 3, 1, 1, 2, 1);
        settle(x);
        Check.same("to 1", x.route(0, 1), 1 + 8 * 10);
        Check.same("to 2", x.route(0, 2), 1 + 8 * 11);
        Check.same("trace", x.trace(0, 2), 2);
    }

    private static AreaRouters areas() {
        AreaRouters x = new AreaRouters();
        x.place(0, 0, 1);
        x.place(1, 0, 3);
        x.place(2, 1, 2);
        x.place(3, 1, 3);
        x.place(4, 1, 1);
        x.place(5, 2, 2);
        return x;
    }

    private static void toAnotherArea() {
        AreaRouters x = areas();
        join(x, 0, 0, 1, 1, 1);
        join(x, 1, 1, 10, 2, 1);
        join(x, 2, 1, 10, 3, 1);
        join(x, 3, 3, 1, 4, 1);
        join(x, 4, 2, 7, 5, 7);
        settle(x);
        Check.same("as near: the least number", x.route(1, 4), 2 + 8 * 10);
        Check.same("also to the other itself", x.route(1, 3), 2 + 8 * 10);
        Check.same("area 2", x.route(1, 5), 2 + 8 * 17);
        Check.same("2 to itself", x.route(2, 2), -1);
        Check.same("0 to itself", x.route(0, 0), -1);
        Check.same("0 goes to the exit", x.route(0, 5), 1 + 8);
        Check.same("0 goes to the exit for 4 too", x.route(0, 4), 1 + 8);
        Check.same("trace", x.trace(0, 5), 3);
        x.attach(1, 2, 9, 0);
        settle(x);
        Check.same("the nearer one of the area", x.route(1, 4), 3 + 8 * 9);
        Check.same("also to the other itself", x.route(1, 2), 3 + 8 * 9);
        Check.same("trace to 4", x.trace(0, 4), 3);
        Check.same("5 to area 0", x.route(5, 0), 2 + 8 * 8);
        Check.same("4 to area 0", x.route(4, 0), 3 + 8);
        Check.same("4 to 2, which has no level 1", x.route(4, 2), 3 + 8);
        Check.same("3 to 2 through 1", x.route(3, 2), 1 + 8 * 11);
        Check.same("1 and 3 send it to one another", x.trace(4, 2), -1);
    }

    private static void toOwnAreaAtLevelTwo() {
        AreaRouters x = new AreaRouters();
        x.place(1, 0, 3);
        x.place(2, 1, 2);
        x.place(3, 0, 3);
        join(x, 1, 1, 3, 2, 3);
        join(x, 2, 2, 4, 3, 4);
        join(x, 3, 3, 5, 0, 5);
        settle(x);
        Check.same("level 1 is broken: to the other of the area", x.route(1, 0), 2 + 8 * 7);
        Check.same("2 to the nearest of area 0", x.route(2, 0), 1 + 8 * 3);
        Check.same("2 and 1 send it to one another", x.trace(1, 0), -1);
        Check.same("nobody else of area 1", x.route(2, 4), 1 + 8 * 3);
        Check.same("area 2 has nobody", unknownArea(x), -1);
        x.attach(2, 1, 5, 0);
        settle(x);
        Check.same("3 is nearer now", x.route(2, 0), 3 + 8 * 4);
        Check.same("over level 2, then level 1", x.trace(1, 0), 3);
    }

    private static int unknownArea(AreaRouters x) {
        x.place(5, 2, 1);
        return x.route(1, 5);
    }

    private static void nearestExit() {
        AreaRouters x = new AreaRouters();
        x.place(1, 0, 3);
        x.place(2, 0, 3);
        x.place(3, 0, 3);
        x.place(5, 1, 2);
        join(x, 0, 0, 9, 1, 1);
        join(x, 1, 0, 9, 2, 1);
        join(x, 2, 0, 1, 3, 1);
        join(x, 3, 1, 1, 5, 1);
        settle(x);
        Check.same("3 is no exit, 1 is", x.route(0, 5), 1 + 8 * 9);
        join(x, 4, 2, 1, 5, 1);
        x.describe(1);
        settle(x);
        Check.same("both as near", x.route(0, 5), 1 + 8 * 9);
        x.attach(0, 1, 8, 0);
        settle(x);
        Check.same("2 is nearer", x.route(0, 5), 2 + 8 * 8);
        Check.same("to one of its area without a way", x.route(0, 4), 2 + 8 * 8);
        AreaRouters y = Check.pair();
        y.place(5, 1, 1);
        settle(y);
        Check.same("no exit", y.route(0, 5), -1);
    }

    private static void deadDescriptions() {
        AreaRouters x = Check.pair();
        settle(x);
        Check.ticks(x, 19);
        Check.same("life 1", x.route(0, 1), 1 + 80);
        x.tick();
        Check.same("life 0", x.route(0, 1), -1);
        Check.same("life 0", x.trace(0, 1), -1);
        for (int early = 0; early < 2; early++) {
            AreaRouters z = Check.pair();
            z.describe(early);
            z.spread(early, 0, 1, 63);
            Check.ticks(z, 3);
            z.describe(1 - early);
            z.spread(1 - early, 0, 1, 63);
            Check.ticks(z, 16);
            Check.same("both live", z.route(0, 1), 1 + 80);
            z.tick();
            Check.same("one is over", z.description(0, 1, 7 * early, 1), 0);
            Check.same("the other lives", z.description(0, 1, 7 - 7 * early, 1), 3);
            Check.same("no way", z.route(0, 1), -1);
        }
        AreaRouters y = Check.trio();
        settle(y);
        Check.same("over the circuit", y.route(0, 1), 1 + 8 * 3);
        Check.ticks(y, 4);
        y.describe(2);
        y.hello(2, 2, 63);
        Check.same("0 knows nothing of it yet", y.route(0, 1), 1 + 8 * 3);
        Check.same("2's circuit is over", y.route(2, 1), -1);
    }

    /** 0 and 1 each know of a way to 2 through the other. */
    private static void loop() {
        AreaRouters x = new AreaRouters();
        join(x, 0, 0, 1, 1, 1);
        join(x, 1, 0, 60, 2, 60);
        join(x, 2, 1, 1, 2, 1);
        settle(x);
        Check.same("0 through 1", x.route(0, 2), 1 + 8 * 2);
        x.attach(1, 2, 60, 0);
        x.attach(1, 0, 1, 0);
        x.attach(0, 1, 20, 0);
        Check.same("1 new", x.describe(1), 1);
        Check.same("0 new", x.describe(0), 1);
        x.spread(0, 0, 1, 2);
        Check.same("1 through 0", x.route(1, 2), 8 * 21);
        Check.same("0 through 1 still", x.route(0, 2), 1 + 8 * 2);
        Check.same("round and round", x.trace(0, 2), -1);
        Check.same("round and round", x.trace(1, 2), -1);
    }

    private static void wrongInputs() {
        AreaRouters x = Check.pair();
        settle(x);
        String before = Check.picture(x);
        int[] odd = {Integer.MIN_VALUE, -1, 6, 7, Integer.MAX_VALUE};
        for (int i : odd) {
            Check.same("route from none", x.route(i, 0), -1);
            Check.same("route to none", x.route(0, i), -1);
            Check.same("trace from none", x.trace(i, 0), -1);
            Check.same("trace to none", x.trace(0, i), -1);
            Check.same("trace of none to itself", x.trace(i, i), -1);
        }
        Check.yes("nothing changed", before.equals(Check.picture(x)));
    }
}
