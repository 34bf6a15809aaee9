/** The edges of the terms DESCRIPTIONS, DESCRIBES and A TICK; each test stands for the words above it. */
public final class DescriptionEdgesTest {
    public static void main(String[] args) {
        lifeFromTwentyDown();
        lifeOfFiveOrLess();
        lifeOfFiveOrLessOfACircuit();
        sequenceAlsoOfThoseThatWent();
        sequenceOfEachNameAndLevel();
        metricAlone();
        neighbourAlone();
        exitAlone();
        noLinkWithoutNeighbour();
        exitNeedsBothLevels();
        exitNeedsAnotherArea();
        exitOnAnyCircuit();
        dueOnAllCircuits();
        askedNowhere();
        endedStaysAsked();
        endedOnce();
        endedPartByPart();
        endedAndBegunAtOneDescribe();
        levelsOneByOne();
        dueWhenItFallsToZero();
        goesAtTheThirdTick();
        endedGoesAtTheThirdTick();
        receivedAtZeroGoesAtTheThirdTick();
        askedWithoutDescriptionStays();
        lostLevelGoesOn();
        Check.finish();
    }

    /** "a LIFE in ticks, from 20 down to 0"; "goes .. at the third tick at which it is so" */
    private static void lifeFromTwentyDown() {
        AreaRouters x = Check.pair();
        x.describe(0);
        x.spread(0, 0, 1, 63);
        for (int ticks = 0; ticks <= 25; ticks++) {
            int due = ticks > 22 ? -1 : Math.max(0, 20 - ticks);
            Check.same("own after " + ticks, x.description(0, 1, 0, 1), due);
            Check.same("received after " + ticks, x.description(1, 1, 0, 1), due);
            x.tick();
        }
    }

    /** "one with a life of 5 or less: a new one, with life 20"; the same for "none, or one with life 0" */
    private static void lifeOfFiveOrLess() {
        for (int ticks = 0; ticks <= 25; ticks++) {
            AreaRouters x = new AreaRouters();
            x.attach(3, 4, 1, 0);
            x.describe(3);
            Check.ticks(x, ticks);
            int isNew = 20 - ticks <= 5 ? 1 : 0;
            Check.same("new after " + ticks, x.describe(3), isNew);
            Check.same("sequence after " + ticks, x.description(3, 1, 21, 0), 1 + isNew);
            Check.same("life after " + ticks, x.description(3, 1, 21, 1), isNew == 1 ? 20 : 20 - ticks);
            Check.same("not at once again", x.describe(3), 0);
        }
    }

    private static void lifeOfFiveOrLessOfACircuit() {
        for (int ticks = 13; ticks <= 24; ticks++) {
            AreaRouters x = Check.trio();
            x.describe(2);
            for (int i = 0; i < ticks; i++) {
                x.tick();
                Check.greet(x, 2, 0, 1, 2);
            }
            int isNew = 20 - ticks <= 5 ? 1 : 0;
            Check.same("both new after " + ticks, x.describe(2), 2 * isNew);
            Check.same("sequence after " + ticks, x.description(2, 1, 17, 0), 1 + isNew);
        }
    }

    /** "a sequence one greater than the greatest that the base ever had .. also of those that went (1 at first)" */
    private static void sequenceAlsoOfThoseThatWent() {
        AreaRouters x = new AreaRouters();
        for (int sequence = 1; sequence <= 5; sequence++) {
            Check.same("none before", x.description(0, 1, 0, 0), -1);
            Check.same("new", x.describe(0), 1);
            Check.same("sequence", x.description(0, 1, 0, 0), sequence);
            Check.ticks(x, 23);
        }
    }

    /** "of this name at this level" */
    private static void sequenceOfEachNameAndLevel() {
        AreaRouters x = new AreaRouters();
        x.place(0, 0, 2);
        x.describe(0);
        Check.ticks(x, 15);
        x.describe(0);
        x.place(0, 0, 3);
        x.describe(0);
        Check.same("level 2", x.description(0, 2, 0, 0), 2);
        Check.same("level 1", x.description(0, 1, 0, 0), 1);
        AreaRouters y = Check.trio();
        y.describe(2);
        y.attach(2, 2, 6, 9);
        y.describe(2);
        Check.same("itself", y.description(2, 1, 14, 0), 2);
        Check.same("the circuit", y.description(2, 1, 17, 0), 1);
    }

    /** "one with other links": the metric alone is another, of the least step */
    private static void metricAlone() {
        AreaRouters x = Check.pair();
        x.describe(0);
        x.attach(0, 0, 10, 100);
        Check.same("another priority is no cause", x.describe(0), 0);
        x.attach(1, 0, 21, 0);
        Check.same("another's metric is no cause", x.describe(0), 0);
        x.attach(0, 0, 11, 100);
        Check.same("its own metric is", x.describe(0), 1);
        x.attach(0, 0, 10, 100);
        Check.same("also back", x.describe(0), 1);
        Check.same("sequence", x.description(0, 1, 0, 0), 3);
        AreaRouters y = Check.trio();
        y.describe(2);
        y.attach(2, 2, 60, 9);
        Check.same("a circuit's links have metric 0 always", y.describe(2), 1);
        Check.same("so it stays", y.description(2, 1, 17, 0), 1);
    }

    private static void neighbourAlone() {
        AreaRouters x = Check.trio();
        x.describe(2);
        Check.ticks(x, 3);
        x.hello(0, 2, 63);
        x.tick();
        Check.same("1 is gone: the circuit has other links", x.describe(2), 1);
        Check.same("itself has not", x.description(2, 1, 14, 0), 1);
        Check.same("two links", x.description(2, 1, 17, 4), 2);
        Check.same("to itself", x.description(2, 1, 17, 5), 14);
        Check.same("and to 0", x.description(2, 1, 17, 6), 0);
    }

    /** "or another EXIT": at level 1 with the very same links */
    private static void exitAlone() {
        AreaRouters x = exitOf(3, 0, 3, 1);
        Check.same("new at both levels", x.describe(0), 2);
        Check.same("exit", x.description(0, 1, 0, 2), 1);
        Check.ticks(x, 4);
        Check.same("no neighbour any more", x.describe(0), 2);
        Check.same("no exit", x.description(0, 1, 0, 2), 0);
        Check.same("without links as before", x.description(0, 1, 0, 4), 0);
        Check.same("the second", x.description(0, 1, 0, 0), 2);
    }

    /** Router 0 and router 1, neighbours on circuit 3 where they can be. */
    private static AreaRouters exitOf(int levels0, int area0, int levels1, int area1) {
        AreaRouters x = new AreaRouters();
        x.place(0, area0, levels0);
        x.place(1, area1, levels1);
        x.attach(0, 3, 1, 0);
        x.attach(1, 3, 1, 0);
        Check.greet(x, 3, 0, 1);
        return x;
    }

    /** "if r has a neighbour there"; "if it has a neighbour n there" */
    private static void noLinkWithoutNeighbour() {
        for (int count = 1; count <= 4; count++) {
            AreaRouters x = new AreaRouters();
            for (int r = 0; r < count; r++) {
                x.attach(r, 0, 1, 0);
                x.hello(0, 0, 63);
                x.hello(r, 0, 62);
            }
            Check.same("itself alone", x.describe(0), 1);
            Check.same("no link", x.description(0, 1, 0, 4), 0);
            Check.same("no circuit", x.description(0, 1, 1, 0), -1);
        }
    }

    /** "EXIT (level 1 only): r has both levels and a neighbour at level 2" */
    private static void exitNeedsBothLevels() {
        for (int a = 1; a <= 3; a++) {
            for (int b = 1; b <= 3; b++) {
                AreaRouters x = exitOf(a, 0, b, 1);
                x.describe(0);
                int due = a == 3 && b != 1 ? 1 : 0;
                Check.same("level 1", x.description(0, 1, 0, 2), a == 2 ? -1 : due);
                Check.same("level 2", x.description(0, 2, 0, 2), a == 1 ? -1 : 0);
            }
        }
    }

    /** "of another area" */
    private static void exitNeedsAnotherArea() {
        for (int a = 0; a < 3; a++) {
            for (int b = 0; b < 3; b++) {
                AreaRouters x = exitOf(3, a, 2, b);
                x.describe(0);
                Check.same("exit", x.description(0, 1, 0, 2), a == b ? 0 : 1);
            }
        }
    }

    private static void exitOnAnyCircuit() {
        for (int c = 0; c < 6; c++) {
            AreaRouters x = new AreaRouters();
            x.place(5, 1, 3);
            x.place(4, 1, 3);
            x.place(0, 0, 2);
            for (int i = 0; i < 6; i++) {
                x.attach(5, i, 1, 0);
                x.attach(i == c ? 0 : 4, i, 1, 0);
                Check.greet(x, i, 5, i == c ? 0 : 4);
            }
            x.describe(5);
            Check.same("exit by circuit " + c, x.description(5, 1, 35, 2), 1);
            Check.same("links at level 1", x.description(5, 1, 35, 4), 5);
            Check.same("links at level 2", x.description(5, 2, 35, 4), 6);
        }
    }

    /** "DUE on all circuits of r": all that it is attached to then, and no other */
    private static void dueOnAllCircuits() {
        int due = 0;
        AreaRouters x = new AreaRouters();
        x.describe(5);
        Check.same("no circuits", x.marks(5, 1, 35), 0);
        for (int c = 0; c < 6; c++) {
            x.attach(5, c, 1, 0);
            Check.same("attached later", x.marks(5, 1, 35), due);
            Check.ticks(x, 15);
            Check.same("new", x.describe(5), 1);
            due += 1 << c;
            Check.same("all of its circuits", x.marks(5, 1, 35), due);
        }
    }

    /** Routers 0, 1, 2 in a ring of circuits 0 (0, 1), 1 (1, 2) and 2 (2, 0); 0's description went all round. */
    private static AreaRouters ring() {
        AreaRouters x = new AreaRouters();
        for (int c = 0; c < 3; c++) {
            x.attach(c, c, 5, 0);
            x.attach((c + 1) % 3, c, 5, 0);
            Check.greet(x, c, c, (c + 1) % 3);
        }
        x.describe(0);
        x.spread(0, 0, 1, 63);
        x.spread(1, 1, 1, 63);
        x.spread(2, 2, 1, 63);
        return x;
    }

    /** "takes its place, DUE on all circuits of r, asked nowhere" */
    private static void askedNowhere() {
        AreaRouters x = ring();
        Check.same("0 got its own: asked there", x.marks(0, 1, 0), 1 + 64 * 4);
        Check.same("nothing new", x.describe(0), 0);
        Check.same("no change", x.marks(0, 1, 0), 1 + 64 * 4);
        x.attach(0, 0, 6, 0);
        x.describe(0);
        Check.same("asked nowhere", x.marks(0, 1, 0), 1 + 4);
    }

    /** "its life becomes 0, it is DUE on all circuits of r": nothing is said of asked. */
    private static void endedStaysAsked() {
        AreaRouters x = Check.trio();
        x.attach(2, 0, 1, 0);
        x.attach(4, 0, 1, 0);
        x.attach(4, 1, 1, 0);
        x.attach(5, 1, 1, 0);
        x.attach(5, 3, 1, 0);
        x.attach(2, 3, 1, 0);
        Check.greet(x, 0, 2, 4);
        Check.greet(x, 1, 4, 5);
        Check.greet(x, 3, 5, 2);
        x.describe(2);
        x.spread(2, 0, 1, 63);
        x.spread(4, 1, 1, 63);
        x.spread(5, 3, 1, 63);
        Check.same("its own came back on circuit 3", x.marks(2, 1, 17), 1 + 4 + 64 * 8);
        x.attach(2, 2, 5, 0);
        x.describe(2);
        Check.same("ended", x.description(2, 1, 17, 1), 0);
        Check.same("due on all, asked as before", x.marks(2, 1, 17), 1 + 4 + 8 + 64 * 8);
    }

    /** "When its base has a part of its own, with life above 0, that it does not describe" */
    private static void endedOnce() {
        AreaRouters x = Check.trio();
        x.describe(2);
        x.attach(2, 2, 5, 0);
        Check.same("itself and the circuit", x.describe(2), 2);
        x.spread(2, 2, 1, 0);
        Check.same("not due", x.marks(2, 1, 17), 0);
        Check.same("life is 0 already", x.describe(2), 0);
        Check.same("not due again", x.marks(2, 1, 17), 0);
        Check.ticks(x, 3);
        Check.same("gone", x.description(2, 1, 17, 0), -1);
        Check.same("none to end", x.describe(2), 0);
        Check.same("none still", x.description(2, 1, 17, 0), -1);
        AreaRouters y = Check.trio();
        y.describe(2);
        Check.ticks(y, 19);
        Check.same("a life of 1 is above 0", y.description(2, 1, 17, 1), 1);
        Check.same("itself new, the circuit ends", y.describe(2), 2);
        Check.same("ended", y.description(2, 1, 17, 1), 0);
    }

    /** "(Part by part.)" */
    private static void endedPartByPart() {
        AreaRouters x = new AreaRouters();
        for (int c = 2; c <= 5; c += 3) {
            for (int r = 0; r < 3; r++) {
                x.attach(r, c, 4, r);
            }
            Check.greet(x, c, 0, 1, 2);
        }
        Check.same("itself and both circuits", x.describe(2), 3);
        x.attach(2, 5, 4, 0);
        Check.same("itself and one circuit", x.describe(2), 2);
        Check.same("ended", x.description(2, 1, 20, 1), 0);
        Check.same("not ended", x.description(2, 1, 17, 1), 20);
        Check.same("others' copies are not its own", x.describe(1), 2);
        x.spread(1, 5, 1, 63);
        Check.same("2 has 1's circuit", x.description(2, 1, 13, 1), 20);
        Check.same("and leaves it", x.describe(2), 0);
        Check.same("as it is", x.description(2, 1, 13, 1), 20);
    }

    private static void endedAndBegunAtOneDescribe() {
        AreaRouters x = new AreaRouters();
        for (int c = 0; c < 2; c++) {
            for (int r = 3; r < 6; r++) {
                x.attach(r, c, 4, r == 3 ? 1 - c : 0);
            }
            Check.greet(x, c, 3, 4, 5);
        }
        Check.same("itself and circuit 0", x.describe(3), 2);
        x.attach(3, 0, 4, 0);
        x.attach(3, 1, 4, 1);
        Check.same("itself, circuit 0 ends, circuit 1 begins", x.describe(3), 3);
        Check.same("ended", x.description(3, 1, 22, 1), 0);
        Check.same("begun", x.description(3, 1, 23, 1), 20);
        Check.same("first link", x.description(3, 1, 21, 5), 36 + 64 * 4);
        Check.same("second link", x.description(3, 1, 21, 6), 23 + 64 * 4);
    }

    /** "r DESCRIBES at each of its levels": only at these, each by itself */
    private static void levelsOneByOne() {
        for (int levels = 1; levels <= 3; levels++) {
            AreaRouters x = new AreaRouters();
            x.place(1, 2, levels);
            Check.same("levels " + levels, x.describe(1), levels == 3 ? 2 : 1);
            Check.same("level 1", x.description(1, 1, 7, 0), levels == 2 ? -1 : 1);
            Check.same("level 2", x.description(1, 2, 7, 0), levels == 1 ? -1 : 1);
        }
        AreaRouters x = exitOf(3, 1, 3, 1);
        x.describe(0);
        x.attach(0, 3, 2, 0);
        Check.same("new links at both", x.describe(0), 2);
        AreaRouters y = exitOf(3, 1, 2, 1);
        y.describe(0);
        y.attach(0, 3, 2, 0);
        Check.same("new links at level 2 alone", y.describe(0), 1);
        Check.same("level 1 as it was", y.description(0, 1, 0, 0), 1);
        Check.same("level 2", y.description(0, 2, 0, 0), 2);
    }

    /** "at 0 it is DUE on all circuits of the router whose base it is in" */
    private static void dueWhenItFallsToZero() {
        AreaRouters x = Check.trio();
        x.attach(0, 5, 1, 0);
        x.attach(1, 4, 1, 0);
        x.describe(0);
        x.spread(0, 2, 1, 63);
        x.spread(0, 5, 1, 63);
        x.spread(1, 4, 1, 63);
        Check.ticks(x, 19);
        Check.same("life 1", x.description(1, 1, 0, 1), 1);
        Check.same("1: as before", x.marks(1, 1, 0), 16);
        Check.same("2: as before", x.marks(2, 1, 0), 0);
        x.tick();
        Check.same("0: all", x.marks(0, 1, 0), 4 + 32);
        Check.same("1: all", x.marks(1, 1, 0), 4 + 16);
        Check.same("2: all", x.marks(2, 1, 0), 4);
        x.spread(2, 2, 1, 0);
        x.tick();
        Check.same("only in the tick in which it fell", x.marks(2, 1, 0), 0);
    }

    /** "one whose life is 0 already goes, with its marks, at the third tick (that in which it fell is none)" */
    private static void goesAtTheThirdTick() {
        AreaRouters x = ring();
        Check.ticks(x, 20);
        for (int tick = 0; tick < 3; tick++) {
            Check.same("there after " + tick, x.description(0, 1, 0, 0), 1);
            Check.same("marked after " + tick, x.marks(0, 1, 0), 1 + 4 + 64 * 4);
            x.tick();
        }
        Check.same("gone", x.description(0, 1, 0, 0), -1);
        Check.same("due and asked nowhere", x.marks(0, 1, 0), 0);
        Check.same("nor to be told", x.summary(0, 0, 1, 63), 0);
        Check.same("nor asked for", x.request(0, 2, 1, 63), 0);
    }

    /** One that got the life 0 by describe has no tick in which it fell. */
    private static void endedGoesAtTheThirdTick() {
        AreaRouters x = Check.trio();
        x.describe(2);
        Check.ticks(x, 1);
        x.attach(2, 2, 5, 0);
        x.describe(2);
        for (int tick = 0; tick < 3; tick++) {
            Check.same("there after " + tick, x.description(2, 1, 17, 1), 0);
            x.tick();
        }
        Check.same("gone", x.description(2, 1, 17, 1), -1);
        Check.same("itself not", x.description(2, 1, 14, 1), 17);
    }

    /** The ticks at which a received one is at 0 are those since it is in this base. */
    private static void receivedAtZeroGoesAtTheThirdTick() {
        for (int ticks = 0; ticks <= 2; ticks++) {
            AreaRouters x = Check.trio();
            x.describe(2);
            x.attach(2, 2, 5, 0);
            x.describe(2);
            Check.ticks(x, ticks);
            x.spread(2, 2, 1, 2);
            for (int tick = 0; tick < 3; tick++) {
                Check.same("there after " + tick, x.description(1, 1, 17, 1), 0);
                x.tick();
            }
            Check.same("gone", x.description(1, 1, 17, 1), -1);
        }
    }

    /** A name may be asked that the base has not; a tick takes only what it has. */
    private static void askedWithoutDescriptionStays() {
        AreaRouters x = Check.pair();
        x.describe(0);
        x.summary(0, 0, 1, 63);
        Check.ticks(x, 30);
        Check.same("0's is gone", x.description(0, 1, 0, 0), -1);
        Check.same("1 asks for it still", x.marks(1, 1, 0), 64);
        Check.same("and tells it", x.request(1, 0, 1, 63), 1);
        Check.same("once", x.marks(1, 1, 0), 0);
    }

    /** "(Its bases stay, also that of a level which it hasn't any more; they go on with TICKS.)" */
    private static void lostLevelGoesOn() {
        for (int lost = 1; lost <= 2; lost++) {
            AreaRouters x = new AreaRouters();
            x.place(2, 1, 3);
            x.describe(2);
            x.place(2, 1, 3 - lost);
            x.attach(2, 1, 1, 0);
            for (int ticks = 0; ticks < 23; ticks++) {
                Check.same("lost", x.description(2, lost, 14, 1), Math.max(0, 20 - ticks));
                Check.same("kept", x.description(2, 3 - lost, 14, 1), Math.max(0, 20 - ticks));
                x.tick();
            }
            Check.same("gone", x.description(2, lost, 14, 1), -1);
            Check.same("describes what it has", x.describe(2), 1);
            Check.same("not what it lost", x.description(2, lost, 14, 1), -1);
            Check.same("no marks there", x.marks(2, lost, 14), -1);
        }
    }
}
