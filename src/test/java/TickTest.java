/** Promise 9: a tick. */
public final class TickTest {
    public static void main(String[] args) {
        lives();
        goesWithItsMarks();
        restBeginsAnew();
        Check.finish();
    }

    private static void lives() {
        AreaRouters x = Check.pair();
        x.describe(0);
        x.spread(0, 0, 1, 63);
        x.request(1, 0, 1, 63);
        x.attach(1, 3, 1, 0);
        for (int life = 19; life >= 1; life--) {
            x.tick();
            Check.same("life at 0", x.description(0, 1, 0, 1), life);
            Check.same("life at 1", x.description(1, 1, 0, 1), life);
            Check.same("not due yet", x.marks(1, 1, 0), 0);
        }
        x.tick();
        Check.same("over at 0", x.description(0, 1, 0, 1), 0);
        Check.same("over at 1", x.description(1, 1, 0, 1), 0);
        Check.same("due at 0 on all its circuits", x.marks(0, 1, 0), 1);
        Check.same("due at 1 on all its circuits", x.marks(1, 1, 0), 1 + 8);
    }

    private static void goesWithItsMarks() {
        AreaRouters x = Check.pair();
        x.describe(0);
        x.spread(0, 0, 1, 63);
        Check.ticks(x, 20);
        for (int rest = 1; rest <= 2; rest++) {
            x.tick();
            Check.same("rests", x.description(1, 1, 0, 1), 0);
            Check.same("due and asked", x.marks(1, 1, 0), 1 + 64);
        }
        x.tick();
        Check.same("gone", x.description(1, 1, 0, 0), -1);
        Check.same("no marks", x.marks(1, 1, 0), 0);
        Check.same("nothing to tell", x.summary(0, 0, 1, 63), 0);
        Check.same("nothing to send", x.spread(0, 0, 1, 63), 0);
    }

    private static void restBeginsAnew() {
        AreaRouters x = Check.trio();
        x.describe(2);
        for (int i = 0; i < 3; i++) {
            x.attach(2, 2, 5, 0);
            x.describe(2);
            Check.same("ended", x.description(2, 1, 17, 1), 0);
            Check.ticks(x, 2);
            Check.same("rests", x.description(2, 1, 17, 1), 0);
            Check.greet(x, 2, 0, 1, 2);
            x.attach(2, 2, 5, 9);
            x.describe(2);
            Check.same("lives", x.description(2, 1, 17, 1), 20);
        }
        Check.same("sequence", x.description(2, 1, 17, 0), 4);
    }
}
