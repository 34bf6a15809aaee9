/** Promises 1 to 3: a new object, place, attach. */
public final class PlaceAndAttachTest {
    public static void main(String[] args) {
        newObject();
        placeTakes();
        placeRefuses();
        placeKeepsBases();
        attachTakes();
        attachRefuses();
        Check.finish();
    }

    private static void newObject() {
        AreaRouters x = new AreaRouters();
        for (int r = 0; r < 6; r++) {
            for (int name = 0; name < 42; name++) {
                Check.same("new marks at 1", x.marks(r, 1, name), 0);
                Check.same("new marks at 2", x.marks(r, 2, name), -1);
                Check.same("new description at 1", x.description(r, 1, name, 0), -1);
                Check.same("new description at 2", x.description(r, 2, name, 0), -1);
            }
            for (int c = 0; c < 6; c++) {
                Check.same("new speaker", x.speaker(r, c, 1), -1);
            }
            for (int d = 0; d < 6; d++) {
                Check.same("new route", x.route(r, d), -1);
                Check.same("new trace", x.trace(r, d), r == d ? 0 : -1);
            }
            Check.same("new describe", x.describe(r), 1);
            Check.same("new area", x.description(r, 1, 7 * r, 3), 0);
            Check.same("no links", x.description(r, 1, 7 * r, 4), 0);
            Check.same("due nowhere", x.marks(r, 1, 7 * r), 0);
        }
    }

    private static void placeTakes() {
        AreaRouters x = new AreaRouters();
        for (int area = 0; area <= 2; area++) {
            for (int levels = 1; levels <= 3; levels++) {
                Check.yes("place", x.place(5, area, levels));
                Check.same("level 1 after place", x.marks(5, 1, 0), (levels & 1) != 0 ? 0 : -1);
                Check.same("level 2 after place", x.marks(5, 2, 0), (levels & 2) != 0 ? 0 : -1);
            }
        }
        Check.same("describe both levels", x.describe(5), 2);
        Check.same("area at level 1", x.description(5, 1, 35, 3), 2);
        Check.same("area at level 2", x.description(5, 2, 35, 3), 2);
    }

    private static void placeRefuses() {
        AreaRouters x = new AreaRouters();
        x.place(2, 1, 3);
        String before = Check.picture(x);
        Check.no("place(-1, 0, 1)", x.place(-1, 0, 1));
        Check.no("place(6, 0, 1)", x.place(6, 0, 1));
        Check.no("place(2, -1, 1)", x.place(2, -1, 1));
        Check.no("place(2, 3, 1)", x.place(2, 3, 1));
        Check.no("place(2, 0, 0)", x.place(2, 0, 0));
        Check.no("place(2, 0, 4)", x.place(2, 0, 4));
        Check.no("place at the far ends", x.place(Integer.MIN_VALUE, Integer.MAX_VALUE, Integer.MIN_VALUE));
        Check.no("a refused attach binds nobody", x.attach(2, 0, 0, 0));
        Check.yes("refused place changed nothing", before.equals(Check.picture(x)));
        Check.yes("place after a refused attach", x.place(2, 1, 2));
        Check.yes("attach", x.attach(2, 5, 1, 0));
        Check.no("place after attach", x.place(2, 0, 1));
        Check.same("levels stay", x.marks(2, 1, 0), -1);
        Check.same("levels stay", x.marks(2, 2, 0), 0);
        Check.no("the same place after attach", x.place(2, 1, 2));
        x.describe(2);
        Check.same("area stays", x.description(2, 2, 14, 3), 1);
        Check.yes("place of another", x.place(3, 2, 2));
    }

    private static void placeKeepsBases() {
        AreaRouters x = new AreaRouters();
        x.place(4, 1, 3);
        x.describe(4);
        Check.yes("place", x.place(4, 2, 1));
        Check.same("base of a lost level stays", x.description(4, 2, 28, 0), 1);
        Check.same("marks of a lost level", x.marks(4, 2, 28), -1);
        Check.same("another area is no cause", x.describe(4), 0);
        Check.same("the area as it was", x.description(4, 1, 28, 3), 1);
        Check.ticks(x, 15);
        Check.same("lost level goes on with ticks", x.description(4, 2, 28, 1), 5);
        Check.same("only level 1 is renewed", x.describe(4), 1);
        Check.same("new area", x.description(4, 1, 28, 3), 2);
        Check.same("new life", x.description(4, 1, 28, 1), 20);
        Check.ticks(x, 5);
        Check.same("lost level falls to 0", x.description(4, 2, 28, 1), 0);
        Check.ticks(x, 3);
        Check.same("lost level goes", x.description(4, 2, 28, 1), -1);
        x.place(4, 0, 2);
        Check.same("level is back", x.describe(4), 1);
        Check.same("sequence goes on", x.description(4, 2, 28, 0), 2);
    }

    private static void attachTakes() {
        AreaRouters x = new AreaRouters();
        Check.yes("least metric and priority", x.attach(0, 0, 1, 0));
        Check.yes("greatest metric and priority", x.attach(5, 5, 60, 100));
        Check.same("attached", x.speaker(0, 0, 1), 0);
        Check.same("attached there alone", x.speaker(0, 1, 1), -1);
        x = Check.pair();
        x.describe(0);
        Check.same("metric", x.description(0, 1, 0, 5), 7 + 64 * 10);
        Check.same("speaker by number", x.speaker(0, 0, 1), 1);
        Check.yes("attach again", x.attach(0, 0, 60, 1));
        Check.same("still neighbours", x.neighbour(0, 0, 1, 1) ? 1 : 0, 1);
        Check.same("another priority", x.speaker(0, 0, 1), 0);
        Check.same("another metric", x.describe(0), 1);
        Check.same("another metric", x.description(0, 1, 0, 5), 7 + 64 * 60);
    }

    private static void attachRefuses() {
        AreaRouters x = new AreaRouters();
        for (int r = 0; r < 4; r++) {
            Check.yes("four on a circuit", x.attach(r, 3, 7, 7));
        }
        String before = Check.picture(x);
        Check.no("a fifth", x.attach(4, 3, 7, 7));
        Check.no("attach(-1, 0, 1, 0)", x.attach(-1, 0, 1, 0));
        Check.no("attach(6, 0, 1, 0)", x.attach(6, 0, 1, 0));
        Check.no("attach(0, -1, 1, 0)", x.attach(0, -1, 1, 0));
        Check.no("attach(0, 6, 1, 0)", x.attach(0, 6, 1, 0));
        Check.no("attach(0, 0, 0, 0)", x.attach(0, 0, 0, 0));
        Check.no("attach(0, 0, 61, 0)", x.attach(0, 0, 61, 0));
        Check.no("attach(0, 0, 1, -1)", x.attach(0, 0, 1, -1));
        Check.no("attach(0, 0, 1, 101)", x.attach(0, 0, 1, 101));
        Check.no("attach(3, 3, 7, 101)", x.attach(3, 3, 7, 101));
        Check.yes("refused attach changed nothing", before.equals(Check.picture(x)));
        Check.yes("one of the four again", x.attach(3, 3, 8, 8));
        Check.yes("the fifth elsewhere", x.attach(4, 4, 7, 7));
    }
}
