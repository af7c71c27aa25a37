/** Promises 24 to 29: what would be. */
public final class WouldBeTest {
    public static void main(String[] args) {
        would();
        rides();
        ifUp();
        bestUp();
        worst();
        owes();
        Check.end();
    }

    // Promise 24
    private static void would() {
        OfflineGates x = Check.day("Oi30c0i01d1r00o3");
        Check.noSuch("would(3, 0)", () -> x.would(3, 0));
        Check.noSuch("would(-1, 0)", () -> x.would(-1, 0));
        Check.noSuch("would(0, 4)", () -> x.would(0, 4));
        Check.noSuch("would(0, -1)", () -> x.would(0, -1));
        x.pay(0, 4);
        x.pay(1, 1);
        String before = Check.picture(x);
        Check.due("too soon", x.would(0, 0), 4);
        Check.due("a double", x.would(1, 0), 0);
        Check.due("down", x.would(1, 1), 1);
        Check.due("open", x.would(1, 3), 2);
        Check.due("with what waits", x.would(2, 0), 0);
        Check.due("on credit", x.would(2, 1), 1);
        Check.same("would changes nothing", Check.picture(x), before);
        x.ride(1, 0);
        Check.due("blocked", x.would(1, 0), 3);
        x.set(1, 0);
        x.set(0, 0);
        Check.due("no credit", x.would(2, 1), 5);
        for (int i = 0; i < 12; i++) {
            x.ride(1, 1);
        }
        Check.due("a full log", x.would(1, 1), 6);
        x.set(2, 1);
        Check.due("a full log", x.would(1, 1), 7);
        x.undo();
        Check.due("would is no action", x.setting(2), 0);
    }

    // Promise 25
    private static void rides() {
        OfflineGates x = Check.day("Oi30d1");
        Check.noSuch("rides(1, 0)", () -> x.rides(1, 0));
        Check.noSuch("rides(-1, 0)", () -> x.rides(-1, 0));
        Check.noSuch("rides(0, 4)", () -> x.rides(0, 4));
        Check.noSuch("rides(0, -1)", () -> x.rides(0, -1));
        Check.due("rides of 2", x.rides(0, 0), 15);
        Check.due("down, until the log is full", x.rides(0, 1), 12);
        x.fare(1, 5);
        Check.due("down, until the credit ends", x.rides(0, 1), 8);
        x.fare(1, 2);
        x.set(2, 1);
        Check.due("through a full log", x.rides(0, 1), 100);
        x.open(2);
        Check.due("open", x.rides(0, 2), 100);
        x.ride(0, 0);
        Check.due("the pause has gone by each time", x.rides(0, 0), 14);
        x.set(1, 0);
        Check.due("without a pause", x.rides(0, 0), 14);
        x.pay(0, 11);
        Check.due("with what waits", x.rides(0, 0), 19);
        x.fare(0, 1);
        x.pay(0, 60);
        Check.due("99 rides", x.rides(0, 0), 99);
        x.pay(0, 1);
        Check.due("100 rides", x.rides(0, 0), 100);
        x.pay(0, 1);
        Check.due("101 rides", x.rides(0, 0), 100);
        OfflineGates y = Check.day("Oi90c0c0r00");
        String before = Check.picture(y);
        Check.due("a double blocks", y.rides(1, 0), 1);
        Check.same("rides changes nothing", Check.picture(y), before);
    }

    /** Gate 0: a double at gate 1, and another ride; gate 1: three rides; gate 2: none, but down; gate 3 up. */
    private static OfflineGates waiting() {
        OfflineGates x = Check.day("Oi30c0i04d0d1d2");
        x.set(1, 0);
        x.fare(0, 4);
        x.fare(1, 3);
        x.ride(0, 0);
        x.ride(0, 0);
        x.ride(1, 1);
        x.ride(2, 1);
        x.ride(2, 1);
        return x;
    }

    // Promise 26
    private static void ifUp() {
        OfflineGates x = waiting();
        Check.noSuch("ifUp(4, 0)", () -> x.ifUp(4, 0));
        Check.noSuch("ifUp(-1, 0)", () -> x.ifUp(-1, 0));
        Check.noSuch("ifUp(4, 4)", () -> x.ifUp(4, 4));
        Check.badArgument("ifUp(0, 4)", () -> x.ifUp(0, 4));
        Check.badArgument("ifUp(0, -1)", () -> x.ifUp(0, -1));
        int[][] due = {{2, 0, 0, 8}, {3, 0, 2, 9}, {0, 0, 0, 0}, {0, 0, 0, 0}};
        String before = Check.picture(x);
        for (int g = 0; g < 4; g++) {
            for (int what = 0; what <= 3; what++) {
                Check.due("ifUp(" + g + ", " + what + ")", x.ifUp(g, what), due[g][what]);
            }
        }
        Check.same("ifUp changes nothing", Check.picture(x), before);
        x.up(0);
        int[][] then = {{0, 0, 0, 0}, {2, 1, 3, 6}, {0, 0, 0, 0}, {0, 0, 0, 0}};
        for (int g = 0; g < 4; g++) {
            for (int what = 0; what <= 3; what++) {
                Check.due("then ifUp(" + g + ", " + what + ")", x.ifUp(g, what), then[g][what]);
            }
        }
        x.up(1);
        Check.due("those that are blocked already", x.ifUp(3, 2), 3);
        Check.due("those that are blocked already", x.ifUp(2, 2), 3);
        x.set(1, 0);
        x.pay(0, 99);
        x.pardon(0);
        x.ride(1, 2);
        Check.due("doubles before do not count", x.ifUp(2, 1), 1);
        Check.due("rides before do not count", x.ifUp(2, 0), 0);
    }

    // Promise 27
    private static void bestUp() {
        Check.due("all up", new OfflineGates().bestUp(), -1);
        OfflineGates x = waiting();
        Check.due("bestUp", x.bestUp(), 1);
        x.up(0);
        x.down(0);
        Check.due("doubles left out, still 6", x.bestUp(), 1);
        x.up(1);
        Check.due("none has rides: the lowest that is down", x.bestUp(), 0);
        x.up(0);
        Check.due("the only one that is down", x.bestUp(), 2);
        x.up(2);
        Check.due("all up", x.bestUp(), -1);
        OfflineGates y = Check.day("Oi50c0d1d2r01r12");
        Check.due("of several the lowest", y.bestUp(), 1);
        y.fare(2, 3);
        y.run(5);
        y.ride(0, 2);
        Check.due("the greater", y.bestUp(), 2);
        y.up(1);
        Check.due("the only one", y.bestUp(), 2);
    }

    // Promise 28
    private static void worst() {
        Check.due("no accounts", new OfflineGates().worst(), -1);
        OfflineGates x = Check.day("Oi20i10i10c1d0");
        Check.due("the lowest of several", x.worst(), 1);
        x.fare(0, 5);
        x.ride(0, 0);
        Check.due("15 to 10 to 10", x.worst(), 1);
        x.ride(2, 0);
        Check.due("15 to 10 to 5", x.worst(), 2);
        x.ride(1, 0);
        x.fare(0, 1);
        x.ride(3, 0);
        Check.due("doubles, too", x.worst(), 1);
        OfflineGates y = Check.day("Oi00");
        Check.due("the only one", y.worst(), 0);
    }

    // Promise 29
    private static void owes() {
        OfflineGates x = waiting();
        Check.noSuch("owes(2)", () -> x.owes(2));
        Check.noSuch("owes(-1)", () -> x.owes(-1));
        String before = Check.picture(x);
        Check.due("30 - 8 - 20", x.owes(0), 0);
        Check.due("4 - 6", x.owes(1), 2);
        Check.same("owes changes nothing", Check.picture(x), before);
        x.set(3, 99);
        Check.due("30 - 8 - 99", x.owes(0), 77);
        x.pay(0, 76);
        Check.due("less 76", x.owes(0), 1);
        x.pay(0, 1);
        Check.due("less 77", x.owes(0), 0);
        x.undo();
        x.up(1);
        Check.due("settled the other way: 30 + 76 - 3 - 4 - 99", x.owes(0), 0);
        x.up(0);
        Check.due("marked", x.account(0, 3), 1);
        Check.due("does not matter", x.owes(0), 0);
        OfflineGates y = Check.day("Oi00");
        Check.due("just 0", y.owes(0), 0);
        OfflineGates z = Check.day("Oi10c0d2d3");
        z.fare(2, 9);
        z.fare(3, 1);
        z.ride(0, 3);
        z.ride(1, 2);
        Check.due("the lowest gate first: 10 - 9 - 20", z.owes(0), 19);
    }
}
