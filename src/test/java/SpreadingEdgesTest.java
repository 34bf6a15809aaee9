/** The edges of NEWER, SPREADING, SUMMARY and REQUEST; each test stands for the words above it. */
public final class SpreadingEdgesTest {
    /** The name that the stages below are of: router 2's circuit 4. */
    private static final int NAME = 7 * 2 + 5;
    /** No description, then the stages from older to newer: sequence 1, it with life 0, 2, it with life 0. */
    private static final int NONE = 0;
    private static final int LAST_STAGE = 4;

    public static void main(String[] args) {
        everyOrderByDescription();
        everyOrderBySummary();
        everyOrderByRequest();
        emptySummary();
        emptyRequestAndSpread();
        requestOfNone();
        requestAsksNoMoreWhoeverReceives();
        requestOnItsCircuitOnly();
        requestTellsOnlyAsked();
        summaryLeavesTheTeller();
        onlyFromNeighbours();
        neighbourForFourTicks();
        othersAttachedAndMeant();
        countsReceivedOrNot();
        byNameAllOfThem();
        ownAnew();
        ownAnewInAnyCase();
        ownEnds();
        ownAtLifeZero();
        askedAsBeforeOnShared();
        levelsApart();
        Check.finish();
    }

    /**
     * Router 2 on circuit 4 with 3 and 4, on circuit 1 with 0, on circuit 3 with 1; 0 and 1 on circuit 0, and 1
     * alone on circuit 5: 2 speaks for circuit 4, gives up, speaks and gives up again.
     */
    private static AreaRouters begin() {
        AreaRouters x = new AreaRouters();
        for (int r = 2; r <= 4; r++) {
            x.attach(r, 4, 1, 5);
        }
        x.attach(2, 1, 1, 0);
        x.attach(0, 1, 1, 0);
        x.attach(2, 3, 1, 0);
        x.attach(1, 3, 1, 0);
        x.attach(0, 0, 1, 0);
        x.attach(1, 0, 1, 0);
        x.attach(1, 5, 1, 0);
        Check.greet(x, 4, 2, 3, 4);
        Check.greet(x, 1, 2, 0);
        Check.greet(x, 3, 2, 1);
        Check.greet(x, 0, 0, 1);
        return x;
    }

    /** Brings router 0 to one stage and router 1 to another one, each over its circuit with 2. */
    private static AreaRouters stages(int of0, int of1) {
        AreaRouters x = begin();
        for (int stage = 1; stage <= LAST_STAGE; stage++) {
            x.attach(2, 4, 1, stage % 2 == 1 ? 6 : 0);
            x.describe(2);
            if (stage == of0) {
                x.spread(2, 1, 1, 1);
            }
            if (stage == of1) {
                x.spread(2, 3, 1, 2);
            }
        }
        checkStage("0 at first", x, 0, of0);
        checkStage("1 at first", x, 1, of1);
        Check.same("0's marks at first", x.marks(0, 1, NAME), of0 == NONE ? 0 : 1 + 64 * 2);
        Check.same("1's marks at first", x.marks(1, 1, NAME), of1 == NONE ? 0 : 1 + 32 + 64 * 8);
        return x;
    }

    private static void checkStage(String what, AreaRouters x, int r, int stage) {
        Check.same(what + ": sequence", x.description(r, 1, NAME, 0), stage == NONE ? -1 : (stage + 1) / 2);
        Check.same(what + ": life", x.description(r, 1, NAME, 1), stage == NONE ? -1 : stage % 2 == 1 ? 20 : 0);
    }

    /** "NEWER .. when its sequence is greater, or that is the same and its life is 0, the other's not" */
    private static void everyOrderByDescription() {
        for (int sent = 1; sent <= LAST_STAGE; sent++) {
            for (int had = NONE; had <= LAST_STAGE; had++) {
                AreaRouters x = stages(sent, had);
                String what = "stage " + sent + " comes to stage " + had;
                x.spread(0, 0, 1, 2);
                checkStage(what, x, 1, Math.max(sent, had));
                int asked = had == NONE ? 0 : 8;
                int due;
                if (had < sent) {
                    due = 8 + 32 + 64 * (asked + 1);
                } else if (had == sent) {
                    due = 32 + 64 * (asked + 1);
                } else {
                    due = 1 + 32 + 64 * asked;
                }
                Check.same(what + ": marks", x.marks(1, 1, NAME), due);
                checkStage(what + ", the sender", x, 0, sent);
                Check.same(what + ": the sender's marks", x.marks(0, 1, NAME), 1 + 64 * 2);
            }
        }
    }

    /**
     * "if x has a newer one than is told: DUE on c; the same: not due on c; an older one or none ..: not due on c,
     * asked on c"; "each of x's whose name was not told: DUE on c, if its life is above 0"
     */
    private static void everyOrderBySummary() {
        for (int told = NONE; told <= LAST_STAGE; told++) {
            for (int had = NONE; had <= LAST_STAGE; had++) {
                for (int dueBefore = 0; dueBefore <= 1; dueBefore++) {
                    AreaRouters x = stages(told, had);
                    if (dueBefore == 0) {
                        x.attach(5, 0, 1, 0);
                        x.spread(1, 0, 1, 0);
                    }
                    String what = "stage " + told + " is told to stage " + had;
                    x.summary(0, 0, 1, 2);
                    boolean due = had > told && (told != NONE || had % 2 == 1 || dueBefore == 1);
                    int elsewhere = had == NONE ? 0 : 32 + 64 * 8;
                    int asked = had < told ? 64 : 0;
                    Check.same(what, x.marks(1, 1, NAME), elsewhere + asked + (due ? 1 : 0));
                    checkStage(what, x, 1, had);
                }
            }
        }
    }

    /**
     * The same for a request. 0 asks on circuit 0, as it got a stage from 1 there or was told of one, before it
     * may get another one from 2.
     */
    private static void everyOrderByRequest() {
        for (int stage = 1; stage <= LAST_STAGE; stage++) {
            AreaRouters x = stages(NONE, stage);
            x.spread(1, 0, 1, 1);
            Check.same("asked where it came from", x.marks(0, 1, NAME), 2 + 64);
            Check.same("it and router 2 itself", x.request(0, 0, 1, 2), 2);
            Check.same("the same: not due", x.marks(1, 1, NAME), 32 + 64 * 8);
        }
        for (int of0 = NONE; of0 < LAST_STAGE; of0++) {
            for (int of1 = of0 + 1; of1 <= LAST_STAGE; of1++) {
                AreaRouters x = stages(of0, of1);
                x.attach(5, 0, 1, 0);
                x.spread(1, 0, 1, 0);
                x.summary(1, 0, 1, 1);
                Check.same("asks for a newer one", x.marks(0, 1, NAME), 64 * (of0 == NONE ? 1 : 3));
                Check.same("it and router 2 itself", x.request(0, 0, 1, 2), 2);
                Check.same("newer than told: due", x.marks(1, 1, NAME), 1 + 32 + 64 * 8);
            }
        }
        for (int of1 = 1; of1 < LAST_STAGE; of1++) {
            for (int of0 = of1 + 1; of0 <= LAST_STAGE; of0++) {
                checkOlderByRequest(of1, of0);
            }
        }
    }

    private static void checkOlderByRequest(int of1, int of0) {
        AreaRouters x = begin();
        for (int stage = 1; stage <= of0; stage++) {
            x.attach(2, 4, 1, stage % 2 == 1 ? 6 : 0);
            x.describe(2);
            if (stage == of1) {
                x.spread(2, 3, 1, 2);
                x.spread(1, 0, 1, 1);
            }
        }
        x.spread(2, 1, 1, 1);
        Check.same("asked on both", x.marks(0, 1, NAME), 1 + 64 * 3);
        x.request(0, 0, 1, 2);
        Check.same("older than told: asked, not due", x.marks(1, 1, NAME), 32 + 64 * (8 + 1));
        checkStage("a request brings nothing", x, 1, of1);
    }

    /** A summary of an empty base tells nothing: all that live are due, whoever they describe. */
    private static void emptySummary() {
        AreaRouters x = Check.trio();
        x.describe(1);
        x.describe(2);
        x.attach(2, 2, 5, 0);
        x.describe(2);
        x.spread(1, 2, 1, 4);
        x.spread(2, 2, 1, 0);
        Check.same("no names", x.summary(0, 2, 1, 4), 0);
        Check.same("its own: due", x.marks(2, 1, 14), 4);
        Check.same("another's: due", x.marks(2, 1, 7), 4);
        Check.same("with life 0: not due", x.marks(2, 1, 17), 0);
        Check.same("the teller has no marks by it", x.marks(0, 1, 14), 0);
        AreaRouters y = Check.pair();
        Check.same("empty to empty", y.summary(0, 0, 1, 63), 0);
        for (int name = 0; name < 42; name++) {
            Check.same("no marks", y.marks(1, 1, name), 0);
        }
    }

    private static void emptyRequestAndSpread() {
        AreaRouters x = Check.pair();
        x.describe(1);
        x.spread(1, 0, 1, 0);
        x.attach(2, 0, 1, 0);
        x.spread(1, 0, 1, 0);
        Check.same("not due", x.marks(1, 1, 7), 0);
        Check.same("nothing asked", x.request(0, 0, 1, 63), 0);
        Check.same("what was not told is not due by a request", x.marks(1, 1, 7), 0);
        Check.same("nothing due", x.spread(0, 0, 1, 63), 0);
        Check.same("nothing due any more", x.spread(1, 0, 1, 63), 0);
        Check.same("so 0 has nothing", x.description(0, 1, 7, 0), -1);
    }

    /** "0 for the sequence where it has none"; "an older one or none (and the sequence told is above 0)" */
    private static void requestOfNone() {
        for (int stage = NONE; stage <= LAST_STAGE; stage++) {
            AreaRouters x = begin();
            x.attach(2, 4, 1, 6);
            x.describe(2);
            x.attach(5, 3, 1, 0);
            x.spread(2, 3, 1, 2);
            x.attach(5, 0, 1, 0);
            x.summary(1, 0, 1, 1);
            Check.same("0 asks for what it has not", x.marks(0, 1, NAME), 64);
            Check.ticks(x, 3);
            for (int i = 2; i <= stage; i++) {
                x.attach(2, 4, 1, i % 2 == 1 ? 6 : 0);
                x.describe(2);
            }
            if (stage == NONE) {
                bringToNothing(x);
            } else if (stage > 1) {
                x.spread(2, 3, 1, 2);
            }
            x.spread(1, 0, 1, 0);
            Check.same("not due", x.marks(1, 1, NAME) % 64 & 1, 0);
            Check.same("it and router 2 itself", x.request(0, 0, 1, 2), 2);
            Check.same("any is newer than none; none is nothing to ask for",
                x.marks(1, 1, NAME) & 1 + 64, stage == NONE ? 0 : 1);
        }
    }

    /** Lets all descriptions go, while 0 and 1 stay neighbours. */
    private static void bringToNothing(AreaRouters x) {
        for (int i = 0; i < 20; i++) {
            x.tick();
            Check.greet(x, 0, 0, 1);
        }
        Check.same("nothing at 1", x.description(1, 1, NAME, 0), -1);
        Check.same("0 asks still", x.marks(0, 1, NAME), 64);
    }

    /** "they are asked no more, whoever receives it" */
    private static void requestAsksNoMoreWhoeverReceives() {
        int[] meants = {0, 1, 63, -1, 2};
        for (int meant : meants) {
            AreaRouters x = Check.pair();
            x.describe(0);
            x.spread(0, 0, 1, 63);
            Check.same("asked", x.marks(1, 1, 0), 64);
            Check.same("told", x.request(1, 0, 1, meant), 1);
            Check.same("asked no more", x.marks(1, 1, 0), 0);
            Check.same("due where nobody received it", x.marks(0, 1, 0), (meant & 1) != 0 ? 0 : 1);
        }
    }

    private static void requestOnItsCircuitOnly() {
        AreaRouters x = stages(1, 1);
        x.spread(1, 0, 1, 1);
        Check.same("asked on both", x.marks(0, 1, NAME), 64 * 3);
        x.request(0, 1, 1, 63);
        Check.same("still asked on the other", x.marks(0, 1, NAME), 64);
    }

    private static void requestTellsOnlyAsked() {
        AreaRouters x = Check.pair();
        x.describe(0);
        x.describe(1);
        x.spread(0, 0, 1, 63);
        x.request(1, 0, 1, 0);
        x.spread(1, 0, 1, 63);
        Check.same("one is asked", x.request(0, 0, 1, 63), 1);
        Check.same("told: not due", x.marks(1, 1, 7), 0);
        Check.same("0's own was not told by 1", x.marks(0, 1, 0), 1);
        Check.same("1 asks for nothing", x.request(1, 0, 1, 63), 0);
        Check.same("so it is still due", x.marks(0, 1, 0), 1);
    }

    /** A summary changes nothing of the one that sends it, nor of those that are not meant. */
    private static void summaryLeavesTheTeller() {
        AreaRouters x = Check.trio();
        x.describe(0);
        x.describe(2);
        String before = Check.picture(x);
        Check.same("one name", x.summary(0, 2, 1, 1), 1);
        Check.same("two names", x.summary(2, 2, 1, 4 + 8 + 64), 2);
        Check.yes("nothing changed", before.equals(Check.picture(x)));
    }

    /** "x RECEIVES a description from r on c, if r is its neighbour there"; a summary and a request alike */
    private static void onlyFromNeighbours() {
        for (int hellos = 0; hellos <= 3; hellos++) {
            AreaRouters x = new AreaRouters();
            x.attach(0, 0, 1, 0);
            x.attach(1, 0, 1, 0);
            for (int i = 0; i < hellos; i++) {
                x.hello(i % 2, 0, 63);
            }
            x.describe(0);
            x.describe(1);
            x.summary(0, 0, 1, 63);
            Check.same("0's summary after " + hellos, x.marks(1, 1, 0), hellos == 3 ? 64 : 0);
            x.spread(0, 0, 1, 63);
            Check.same("0's to 1 after " + hellos, x.description(1, 1, 0, 0), hellos == 3 ? 1 : -1);
            x.spread(1, 0, 1, 63);
            Check.same("1's to 0 after " + hellos, x.description(0, 1, 7, 0), hellos >= 2 ? 1 : -1);
            Check.same("asked by 0", x.request(0, 0, 1, 63), hellos >= 2 ? 1 : 0);
            Check.same("1's due", x.marks(1, 1, 7), hellos == 3 ? 0 : 1);
        }
    }

    private static void neighbourForFourTicks() {
        for (int ticks = 3; ticks <= 4; ticks++) {
            AreaRouters x = Check.pair();
            x.describe(0);
            Check.ticks(x, ticks);
            Check.same("told", x.summary(0, 0, 1, 63), 1);
            Check.same("asked after " + ticks, x.marks(1, 1, 0), ticks < 4 ? 64 : 0);
            Check.same("sent", x.spread(0, 0, 1, 63), 1);
            Check.same("there after " + ticks, x.description(1, 1, 0, 1), ticks < 4 ? 20 - ticks : -1);
        }
    }

    /** "others that are attached and meant receive each" */
    private static void othersAttachedAndMeant() {
        for (int meant = 0; meant < 128; meant++) {
            AreaRouters x = new AreaRouters();
            for (int r = 1; r < 5; r++) {
                x.attach(r, 3, 1, 0);
            }
            Check.greet(x, 3, 1, 2, 3, 4);
            x.describe(2);
            Check.same("sent", x.spread(2, 3, 1, meant), 1);
            for (int r = 0; r < 6; r++) {
                boolean due = r == 2 || r >= 1 && r <= 4 && (meant & 1 << r) != 0;
                Check.same("at " + r + " by " + meant, x.description(r, 1, 14, 0), due ? 1 : -1);
            }
        }
    }

    /** "how many descriptions, received or not" */
    private static void countsReceivedOrNot() {
        AreaRouters x = Check.trio();
        x.describe(0);
        x.describe(2);
        x.spread(2, 2, 1, 1);
        x.summary(1, 2, 1, 1);
        Check.same("0 has three due", x.spread(0, 2, 1, 0), 3);
        x.summary(1, 2, 1, 1);
        Check.same("three again, one receives", x.spread(0, 2, 1, 2), 3);
        Check.same("and told are three", x.summary(1, 2, 1, 0), 3);
    }

    /** "r sends on c what is DUE there, by name": from the first name to the last */
    private static void byNameAllOfThem() {
        AreaRouters x = new AreaRouters();
        x.attach(0, 0, 1, 0);
        x.attach(5, 0, 1, 0);
        for (int c = 0; c < 6; c++) {
            for (int r = 5; r >= 3; r--) {
                x.attach(r, c, 1, 0);
            }
        }
        Check.greet(x, 0, 0, 5);
        for (int c = 1; c < 6; c++) {
            Check.greet(x, c, 3, 4, 5);
        }
        x.describe(0);
        x.spread(0, 0, 1, 63);
        Check.same("seven of its own", x.describe(5), 7);
        Check.same("all but the one that came from there", x.spread(5, 0, 1, 63), 7);
        Check.same("all of them elsewhere", x.spread(5, 5, 1, 63), 8);
        for (int name = 0; name < 42; name++) {
            int due = name == 0 || name >= 35 ? 1 : -1;
            Check.same("4 has name " + name, x.description(4, 1, name, 0), due);
            Check.same("0 has name " + name, x.description(0, 1, name, 0), due);
        }
    }

    /** 2's circuit has gone at 2, while 1 has it alive; 2 and 1 are neighbours on circuit 3, which is not shared. */
    private static AreaRouters ownGone(boolean speaks) {
        AreaRouters x = begin();
        x.attach(2, 4, 1, 6);
        x.describe(2);
        x.spread(2, 3, 1, 2);
        x.attach(2, 4, 1, 0);
        x.describe(2);
        for (int i = 0; i < 3; i++) {
            Check.same("there", x.description(2, 1, NAME, 0), 1);
            x.tick();
        }
        Check.same("gone", x.description(2, 1, NAME, 0), -1);
        Check.greet(x, 4, 2, 3, 4);
        Check.greet(x, 3, 1, 2);
        x.attach(2, 4, 1, speaks ? 6 : 0);
        x.summary(2, 3, 1, 2);
        x.summary(1, 3, 1, 4);
        Check.same("1 has it due for 2", x.marks(1, 1, NAME) & 8, 8);
        Check.same("2 asks for it", x.marks(2, 1, NAME), 64 * 8);
        return x;
    }

    /** "x describes this part anew .. DUE on all circuits of x, asked nowhere" */
    private static void ownAnew() {
        AreaRouters x = ownGone(true);
        x.spread(1, 3, 1, 4);
        Check.same("greater than that", x.description(2, 1, NAME, 0), 2);
        Check.same("a whole life", x.description(2, 1, NAME, 1), 20);
        Check.same("due on all, asked nowhere", x.marks(2, 1, NAME), 2 + 8 + 16);
        x.spread(2, 3, 1, 2);
        Check.same("1 takes it", x.description(1, 1, NAME, 0), 2);
    }

    /** "in any case, if it describes the part": also where what came says just the same */
    private static void ownAnewInAnyCase() {
        AreaRouters x = ownGone(true);
        Check.same("came with three links", x.description(1, 1, NAME, 4), 3);
        x.spread(1, 3, 1, 4);
        for (int what = 2; what < 9; what++) {
            Check.same("the same again", x.description(2, 1, NAME, what), x.description(1, 1, NAME, what));
        }
        Check.same("yet another sequence", x.description(2, 1, NAME, 0), 2);
    }

    /** "else its life becomes 0; DUE on all circuits of x, asked nowhere" */
    private static void ownEnds() {
        AreaRouters x = ownGone(false);
        x.spread(1, 3, 1, 4);
        Check.same("as it came", x.description(2, 1, NAME, 0), 1);
        Check.same("life 0", x.description(2, 1, NAME, 1), 0);
        Check.same("due on all, asked nowhere", x.marks(2, 1, NAME), 2 + 8 + 16);
        x.describe(2);
        Check.same("nothing to end any more", x.description(2, 1, NAME, 0), 1);
        x.spread(2, 3, 1, 2);
        Check.same("1 takes the life 0", x.description(1, 1, NAME, 1), 0);
        Check.ticks(x, 2);
        Check.same("two ticks", x.description(2, 1, NAME, 1), 0);
        x.tick();
        Check.same("the third", x.description(2, 1, NAME, 1), -1);
    }

    /** "When the name is another's (or the life is 0): x's base has it then" */
    private static void ownAtLifeZero() {
        AreaRouters x = begin();
        x.attach(2, 4, 1, 6);
        x.describe(2);
        x.attach(2, 4, 1, 0);
        x.describe(2);
        Check.ticks(x, 2);
        x.spread(2, 3, 1, 2);
        x.tick();
        Check.same("gone", x.description(2, 1, NAME, 0), -1);
        Check.same("1 has it with life 0", x.description(1, 1, NAME, 1), 0);
        Check.greet(x, 3, 1, 2);
        x.summary(1, 3, 1, 4);
        x.request(2, 3, 1, 2);
        x.attach(2, 4, 1, 6);
        Check.greet(x, 4, 2, 3, 4);
        x.spread(1, 3, 1, 4);
        Check.same("it has it, though it could describe it", x.description(2, 1, NAME, 0), 1);
        Check.same("with life 0", x.description(2, 1, NAME, 1), 0);
        Check.same("due on the others, asked there", x.marks(2, 1, NAME), 2 + 16 + 64 * 8);
        x.describe(2);
        Check.same("described by describe alone", x.description(2, 1, NAME, 0), 2);
    }

    /** "if c is not shared, ASKED on c (if it is, asked there as before)" */
    private static void askedAsBeforeOnShared() {
        for (int asked = 0; asked <= 1; asked++) {
            AreaRouters x = Check.trio();
            x.describe(0);
            if (asked == 1) {
                x.summary(0, 2, 1, 2);
            }
            x.spread(0, 2, 1, 2);
            Check.same("1 has it", x.description(1, 1, 0, 0), 1);
            Check.same("asked as before", x.marks(1, 1, 0), 64 * 4 * asked);
            x.attach(0, 2, 9, 5);
            x.describe(0);
            x.spread(0, 2, 1, 2);
            Check.same("a newer one", x.description(1, 1, 0, 0), 2);
            Check.same("still as before", x.marks(1, 1, 0), 64 * 4 * asked);
            x.summary(2, 2, 1, 1);
            x.spread(0, 2, 1, 2);
            Check.same("the same: as before", x.marks(1, 1, 0), 64 * 4 * asked);
        }
    }

    /** "What is said of a level l (1 or 2) below holds for each by itself." */
    private static void levelsApart() {
        for (int l = 1; l <= 2; l++) {
            AreaRouters x = new AreaRouters();
            x.place(0, 1, 3);
            x.place(1, 1, 3);
            x.attach(0, 0, 1, 0);
            x.attach(1, 0, 1, 0);
            Check.greet(x, 0, 0, 1);
            x.describe(0);
            x.describe(1);
            x.summary(0, 0, l, 63);
            Check.same("asked at its level", x.marks(1, l, 0), 64);
            Check.same("not at the other", x.marks(1, 3 - l, 0), 0);
            Check.same("none asked at the other", x.request(1, 0, 3 - l, 63), 0);
            Check.same("one at its level", x.request(1, 0, l, 63), 1);
            x.spread(0, 0, l, 63);
            Check.same("there at its level", x.description(1, l, 0, 0), 1);
            Check.same("not at the other", x.description(1, 3 - l, 0, 0), -1);
            Check.same("a route at the level", x.route(1, 0), 8);
        }
    }
}
