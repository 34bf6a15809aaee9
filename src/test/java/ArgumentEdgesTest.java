/** Promises 1 to 15: every argument just inside and just outside of what the document names, and far out. */
public final class ArgumentEdgesTest {
    private static final int LEAST = Integer.MIN_VALUE;
    private static final int MOST = Integer.MAX_VALUE;
    /** Routers and circuits alike are 0 .. 5. */
    private static final int[] NUMBERS = {LEAST, -64, -2, -1, 0, 1, 2, 3, 4, 5, 6, 7, 63, 64, MOST};
    private static final int[] LEVELS = {LEAST, -2, -1, 0, 1, 2, 3, 4, 5, MOST};
    private static final int[] AREAS = {LEAST, -1, 0, 1, 2, 3, 4, MOST};
    private static final int[] METRICS = {LEAST, -60, -1, 0, 1, 2, 59, 60, 61, 124, MOST};
    private static final int[] PRIORITIES = {LEAST, -100, -1, 0, 1, 99, 100, 101, MOST};
    private static final int[] NAMES = {LEAST, -42, -1, 0, 6, 7, 34, 35, 41, 42, 43, 63, 64, MOST};

    /** Of busy(): the levels of each router, and the circuits (a set) that it is attached to. */
    private static final int[] BUSY_LEVELS = {3, 1, 2, 1, 3, 1};
    private static final int[] BUSY_AREAS = {0, 0, 1, 0, 2, 0};
    private static final int[] BUSY_CIRCUITS = {1 + 2 + 8, 1 + 8, 2 + 4, 1, 4, 16};

    public static void main(String[] args) {
        newObject();
        placeArguments();
        placeAfterAttach();
        attachArguments();
        attachToFull();
        attachAgainToFull();
        refusedAttachOfAttached();
        senders();
        meantBits();
        describeArguments();
        neighbourArguments();
        speakerArguments();
        descriptionArguments();
        descriptionWhats();
        marksArguments();
        routeArguments();
        Check.finish();
    }

    private static boolean isNumber(int i) {
        return i >= 0 && i <= 5;
    }

    private static boolean hasLevel(int r, int l) {
        return (l == 1 || l == 2) && (BUSY_LEVELS[r] & l) != 0;
    }

    private static boolean isAttached(int r, int c) {
        return (BUSY_CIRCUITS[r] & 1 << c) != 0;
    }

    /** Two areas and more, a shared circuit 0, circuits of two, one of 5 alone, an empty one; marks of all kinds. */
    private static AreaRouters busy() {
        AreaRouters x = new AreaRouters();
        for (int r = 0; r < 6; r++) {
            x.place(r, BUSY_AREAS[r], BUSY_LEVELS[r]);
            for (int c = 0; c < 6; c++) {
                if (isAttached(r, c)) {
                    x.attach(r, c, 1 + r + c, 10 * r);
                }
            }
        }
        Check.greet(x, 0, 0, 1, 3);
        Check.greet(x, 1, 0, 2);
        Check.greet(x, 2, 2, 4);
        Check.greet(x, 3, 0, 1);
        x.tick();
        for (int r = 0; r < 6; r++) {
            x.describe(r);
        }
        x.spread(0, 0, 1, 63);
        x.spread(3, 0, 1, 63);
        x.spread(1, 3, 1, 63);
        x.spread(0, 1, 2, 63);
        x.spread(2, 1, 2, 63);
        x.spread(2, 2, 2, 63);
        x.summary(1, 0, 1, 63);
        return x;
    }

    /** "All routers in area 0 with level 1, nobody attached, empty bases." */
    private static void newObject() {
        AreaRouters x = new AreaRouters();
        for (int r = 0; r < 6; r++) {
            for (int c = 0; c < 6; c++) {
                int from = r;
                int on = c;
                Check.fails("nobody attached", IllegalStateException.class, () -> x.hello(from, on, 63));
                Check.same("no speaker", x.speaker(r, c, 1), -1);
                for (int n = 0; n < 6; n++) {
                    Check.no("no neighbour", x.neighbour(r, c, 1, n) || x.neighbour(r, c, 2, n));
                }
            }
        }
        for (int r = 0; r < 6; r++) {
            x.attach(r, r / 3, 1, 0);
            int from = r;
            Check.same("empty base", x.summary(r, r / 3, 1, 63), 0);
            Check.same("nothing due", x.spread(r, r / 3, 1, 63), 0);
            Check.same("nothing asked", x.request(r, r / 3, 1, 63), 0);
            Check.fails("no level 2", IllegalArgumentException.class, () -> x.summary(from, from / 3, 2, 63));
        }
        Check.greet(x, 0, 0, 1, 2);
        Check.greet(x, 1, 3, 4, 5);
        Check.yes("all in one area", x.neighbour(0, 0, 1, 2) && x.neighbour(5, 1, 1, 3));
        for (int r = 0; r < 6; r++) {
            x.describe(r);
            Check.same("that is area 0", x.description(r, 1, 7 * r, 3), 0);
        }
    }

    /** "False (changing nothing) when there is no r, area is not 0 .. 2, levels not 1 .. 3". */
    private static void placeArguments() {
        AreaRouters x = new AreaRouters();
        x.place(0, 1, 2);
        String before = Check.picture(x);
        for (int r : NUMBERS) {
            for (int area : AREAS) {
                for (int levels : LEVELS) {
                    boolean due = isNumber(r) && area >= 0 && area <= 2 && levels >= 1 && levels <= 3;
                    String call = "place(" + r + ", " + area + ", " + levels + ")";
                    if (due) {
                        checkPlaced(call, r, area, levels);
                    } else {
                        Check.no(call, x.place(r, area, levels));
                    }
                }
            }
        }
        Check.yes("refused places change nothing", before.equals(Check.picture(x)));
        x.describe(0);
        Check.same("nor the area", x.description(0, 2, 0, 3), 1);
    }

    private static void checkPlaced(String call, int r, int area, int levels) {
        AreaRouters x = new AreaRouters();
        Check.yes(call, x.place(r, area, levels));
        Check.same(call + " describes", x.describe(r), levels == 3 ? 2 : 1);
        for (int l = 1; l <= 2; l++) {
            boolean has = levels == 3 || levels == l;
            Check.same(call + " area", x.description(r, l, 7 * r, 3), has ? area : -1);
            Check.same(call + " marks", x.marks(r, l, 7 * r), has ? 0 : -1);
        }
    }

    /** "or it was attached to a circuit before" */
    private static void placeAfterAttach() {
        for (int c = 0; c < 6; c++) {
            AreaRouters x = new AreaRouters();
            x.place(3, 1, 3);
            Check.no("a refused attach", x.attach(3, c, 61, 0));
            Check.yes("attaches nobody", x.place(3, 2, 2));
            x.attach(3, c, 60, 0);
            Check.no("another place", x.place(3, 0, 1));
            Check.no("the same place", x.place(3, 2, 2));
            Check.no("no place at all", x.place(3, 3, 4));
            Check.yes("one who is not attached", x.place(2, 2, 1));
            x.describe(3);
            Check.same("the area stays", x.description(3, 2, 21, 3), 2);
            Check.same("the levels stay", x.marks(3, 1, 21), -1);
        }
    }

    /** "False when there is no r or c, metric is not 1 .. 60, priority not 0 .. 100" */
    private static void attachArguments() {
        AreaRouters x = new AreaRouters();
        String before = Check.picture(x);
        for (int r : NUMBERS) {
            for (int c : NUMBERS) {
                for (int metric : METRICS) {
                    for (int priority : PRIORITIES) {
                        boolean due = isNumber(r) && isNumber(c) && metric >= 1 && metric <= 60
                            && priority >= 0 && priority <= 100;
                        String call = "attach(" + r + ", " + c + ", " + metric + ", " + priority + ")";
                        if (due) {
                            AreaRouters y = new AreaRouters();
                            Check.yes(call, y.attach(r, c, metric, priority));
                            Check.same(call + " attaches", y.speaker(r, c, 1), r);
                        } else {
                            Check.no(call, x.attach(r, c, metric, priority));
                        }
                    }
                }
            }
        }
        Check.yes("refused attaches change nothing", before.equals(Check.picture(x)));
        for (int r = 0; r < 6; r++) {
            Check.yes("nor attach anybody", x.place(r, 1, 1));
        }
    }

    /** "or c is new to r and has 4 attached" */
    private static void attachToFull() {
        for (int c = 0; c < 6; c++) {
            AreaRouters x = new AreaRouters();
            for (int r = 5; r > 1; r--) {
                Check.yes("up to four", x.attach(r, c, 1, 0));
            }
            Check.no("a fifth", x.attach(1, c, 1, 0));
            Check.no("a sixth", x.attach(0, c, 60, 100));
            Check.same("the fifth is not attached", x.speaker(1, c, 1), -1);
            Check.yes("and may be placed", x.place(1, 2, 2));
            Check.same("four with the sender", x.hello(5, c, 63), 3);
            Check.yes("the next circuit has room", x.attach(1, (c + 1) % 6, 1, 0));
        }
    }

    /** "or gets another metric and priority there", on a full circuit too */
    private static void attachAgainToFull() {
        AreaRouters x = new AreaRouters();
        for (int r = 0; r < 4; r++) {
            x.attach(r, 5, 1, 0);
        }
        Check.greet(x, 5, 0, 1, 2, 3);
        Check.same("speaker by number", x.speaker(0, 5, 1), 3);
        for (int r = 0; r < 4; r++) {
            Check.yes("again", x.attach(r, 5, 60 - r, 100 - r));
            Check.same("the greatest priority so far", x.speaker(1, 5, 1), 0);
            Check.yes("heard as before", x.neighbour((r + 1) % 4, 5, 1, r));
            x.describe(r);
            Check.same("another metric", x.description(r, 1, 7 * r, 5) / 64, 60 - r);
        }
    }

    private static void refusedAttachOfAttached() {
        AreaRouters x = Check.trio();
        x.describe(2);
        String before = Check.picture(x);
        Check.no("metric 0", x.attach(2, 2, 0, 0));
        Check.no("metric 61", x.attach(2, 2, 61, 0));
        Check.no("priority -1", x.attach(2, 2, 50, -1));
        Check.no("priority 101", x.attach(2, 2, 50, 101));
        Check.yes("all as it was", before.equals(Check.picture(x)));
        Check.same("metric and priority stay", x.describe(2), 0);
    }

    private static String dueOfSender(int r, int c) {
        if (!isNumber(r) || !isNumber(c)) {
            return "IndexOutOfBoundsException";
        }
        return isAttached(r, c) ? "answers" : "IllegalStateException";
    }

    private static String dueOfSender(int r, int c, int l) {
        String due = dueOfSender(r, c);
        return !due.equals("answers") || hasLevel(r, l) ? due : "IllegalArgumentException";
    }

    /**
     * "IndexOutOfBoundsException when there is no r or c; IllegalStateException when r is not attached to c."
     * "IllegalArgumentException, too, when r has no such level."
     */
    private static void senders() {
        AreaRouters x = busy();
        String before = Check.picture(x);
        for (int r : NUMBERS) {
            for (int c : NUMBERS) {
                String call = "(" + r + ", " + c + ", ..)";
                AreaRouters toGreet = dueOfSender(r, c).equals("answers") ? busy() : x;
                Check.kind("hello" + call, () -> toGreet.hello(r, c, 63), dueOfSender(r, c));
                for (int l : LEVELS) {
                    String due = dueOfSender(r, c, l);
                    AreaRouters y = due.equals("answers") ? busy() : x;
                    String levelCall = "(" + r + ", " + c + ", " + l + ", ..)";
                    Check.kind("spread" + levelCall, () -> y.spread(r, c, l, 63), due);
                    Check.kind("summary" + levelCall, () -> y.summary(r, c, l, 63), due);
                    Check.kind("request" + levelCall, () -> y.request(r, c, l, 63), due);
                }
            }
        }
        Check.yes("calls that throw change nothing", before.equals(Check.picture(x)));
    }

    /** "meant are those in a set (the sum of 1 << router)": bits of no router mean nobody. */
    private static void meantBits() {
        for (int x = 1; x < 4; x++) {
            AreaRouters y = new AreaRouters();
            for (int r = 0; r < 4; r++) {
                y.attach(r, 0, 1, 0);
            }
            Check.same("its bit alone", y.hello(0, 0, 1 << x), 1);
            Check.same("all bits but its own", y.hello(0, 0, ~(1 << x)), 2);
            Check.same("its bit and those of nobody", y.hello(0, 0, ~63 | 1 << x), 1);
            Check.same("six bits further is no router", y.hello(0, 0, 64 << x), 0);
        }
        AreaRouters z = new AreaRouters();
        z.attach(0, 0, 1, 0);
        z.attach(5, 0, 1, 0);
        Check.same("none", z.hello(0, 0, 0), 0);
        Check.same("the least int", z.hello(0, 0, LEAST), 0);
        Check.same("the greatest int", z.hello(0, 0, MOST), 1);
        Check.same("-1", z.hello(5, 0, -1), 1);
        Check.same("the sender alone", z.hello(0, 0, 1), 0);
        Check.same("those who are not attached", z.hello(0, 0, 2 + 4 + 8 + 16), 0);
        AreaRouters alone = new AreaRouters();
        alone.attach(4, 4, 1, 0);
        Check.same("alone on a circuit", alone.hello(4, 4, -1), 0);
        alone.describe(4);
        Check.same("sent, received by none", alone.spread(4, 4, 1, -1), 1);
        Check.same("told, received by none", alone.summary(4, 4, 1, -1), 1);
    }

    /** "IndexOutOfBoundsException when there is no r." */
    private static void describeArguments() {
        AreaRouters x = busy();
        String before = Check.picture(x);
        for (int r : NUMBERS) {
            if (isNumber(r)) {
                Check.kind("describe(" + r + ")", () -> busy().describe(r), "answers");
            } else {
                Check.kind("describe(" + r + ")", () -> x.describe(r), "IndexOutOfBoundsException");
            }
        }
        Check.yes("nothing changed", before.equals(Check.picture(x)));
    }

    private static void neighbourArguments() {
        AreaRouters x = busy();
        for (int r : NUMBERS) {
            for (int c : NUMBERS) {
                for (int l : LEVELS) {
                    for (int n : NUMBERS) {
                        boolean due = isNumber(r) && isNumber(c) && isNumber(n) && r != n
                            && isAttached(r, c) && isAttached(n, c) && hasLevel(r, l) && hasLevel(n, l)
                            && (l == 2 || BUSY_AREAS[r] == BUSY_AREAS[n]);
                        String call = "neighbour(" + r + ", " + c + ", " + l + ", " + n + ")";
                        Check.same(call, x.neighbour(r, c, l, n) ? 1 : 0, due ? 1 : 0);
                    }
                }
            }
        }
    }

    /** "-1 when r is not attached to it, has no such level, or there is no such thing" */
    private static void speakerArguments() {
        AreaRouters x = busy();
        for (int r : NUMBERS) {
            for (int c : NUMBERS) {
                for (int l : LEVELS) {
                    int due = -1;
                    if (isNumber(r) && isNumber(c) && isAttached(r, c) && hasLevel(r, l)) {
                        due = r;
                        for (int n = r + 1; n < 6; n++) {
                            due = x.neighbour(r, c, l, n) ? n : due;
                        }
                    }
                    Check.same("speaker(" + r + ", " + c + ", " + l + ")", x.speaker(r, c, l), due);
                }
            }
        }
    }

    /** "-1 when there is none." */
    private static void descriptionArguments() {
        AreaRouters x = busy();
        for (int r : NUMBERS) {
            for (int l : LEVELS) {
                for (int name : NAMES) {
                    boolean own = isNumber(r) && hasLevel(r, l) && name == 7 * r;
                    String call = "description(" + r + ", " + l + ", " + name + ", 0)";
                    if (own) {
                        Check.same(call, x.description(r, l, name, 0), 1);
                    }
                    if (!isNumber(r) || l < 1 || l > 2 || name < 0 || name > 41 || !hasLevel(r, l)) {
                        Check.same(call, x.description(r, l, name, 0), -1);
                    }
                }
            }
        }
        AreaRouters y = new AreaRouters();
        for (int c = 0; c < 6; c++) {
            for (int r = 3; r < 6; r++) {
                y.attach(r, c, 1, 0);
            }
            Check.greet(y, c, 3, 4, 5);
        }
        Check.same("all seven parts", y.describe(5), 7);
        Check.same("the name before the first", y.description(5, 1, 34, 0), -1);
        for (int name = 35; name < 42; name++) {
            Check.same("name " + name, y.description(5, 1, name, 0), 1);
        }
        Check.same("the name behind the last", y.description(5, 1, 42, 0), -1);
        Check.same("six links, one of each circuit", y.description(5, 1, 35, 4), 6);
        Check.same("the sixth", y.description(5, 1, 35, 10), 41 + 64);
        Check.same("no seventh", y.description(5, 1, 35, 11), -1);
    }

    /** "5 + k: link k's name plus 64 times its metric. -1 when there is none." */
    private static void descriptionWhats() {
        AreaRouters x = new AreaRouters();
        for (int r = 0; r < 4; r++) {
            x.attach(r, 0, 60, 100);
        }
        x.describe(3);
        Check.same("no links", x.description(3, 1, 21, 4), 0);
        Check.same("no first link", x.description(3, 1, 21, 5), -1);
        Check.greet(x, 0, 0, 1, 2, 3);
        x.describe(3);
        Check.same("one link", x.description(3, 1, 21, 4), 1);
        Check.same("with the greatest metric", x.description(3, 1, 21, 5), 22 + 64 * 60);
        Check.same("no second", x.description(3, 1, 21, 6), -1);
        Check.same("a full circuit has four links", x.description(3, 1, 22, 4), 4);
        Check.same("the last", x.description(3, 1, 22, 8), 14);
        Check.same("no fifth", x.description(3, 1, 22, 9), -1);
        int[] outside = {LEAST, LEAST + 4, LEAST + 5, -6, -5, -1, 10, 14, 15, 16, 64, MOST - 5, MOST};
        for (int what : outside) {
            Check.same("what " + what, x.description(3, 1, 22, what), -1);
        }
        for (int what = -1; what < 20; what++) {
            Check.same("what " + what + " of none", x.description(3, 1, 0, what), -1);
        }
    }

    /** "-1 when there is no r or it has no level l, or there is no such name" */
    private static void marksArguments() {
        AreaRouters x = busy();
        for (int r : NUMBERS) {
            for (int l : LEVELS) {
                for (int name : NAMES) {
                    boolean due = isNumber(r) && hasLevel(r, l) && name >= 0 && name <= 41;
                    String call = "marks(" + r + ", " + l + ", " + name + ")";
                    Check.same(call, x.marks(r, l, name) >= 0 ? 0 : x.marks(r, l, name), due ? 0 : -1);
                }
            }
        }
        Check.same("neither due nor asked nor there", x.marks(5, 1, 41), 0);
        Check.same("asked, not there", x.marks(3, 1, 7), 64);
    }

    /** "-1 when there is none, or no such router, or d is r"; a trace is "0 when d is r" and else alike. */
    private static void routeArguments() {
        AreaRouters x = busy();
        for (int r : NUMBERS) {
            for (int d : NUMBERS) {
                String call = "(" + r + ", " + d + ")";
                if (!isNumber(r) || !isNumber(d)) {
                    Check.same("route" + call, x.route(r, d), -1);
                    Check.same("trace" + call, x.trace(r, d), -1);
                } else if (r == d) {
                    Check.same("route" + call, x.route(r, d), -1);
                    Check.same("trace" + call, x.trace(r, d), 0);
                }
            }
        }
        Check.same("a way", x.route(0, 2) % 8, 2);
        Check.same("a trace", x.trace(0, 2), 1);
    }
}
