/** Promises 24 to 29: what would be. */
public final class WouldBeTest {
    public static void main(String[] args) {
        would();
        rides();
        ridesUntilMoneyEnds();
        ridesUntilTheLogIsFull();
        ridesUntilBlocked();
        ridesBehindPauses();
        ifUp();
        ifUpWhileUp();
        ifUpOfFullLogs();
        ifUpBlocks();
        bestUp();
        bestUpOfEach();
        bestUpByFares();
        bestUpOfSeveral();
        worst();
        worstOfEach();
        owes();
        owesJustEnough();
        owesInOrder();
        Check.end();
    }

    // Promise 24
    private static void would() {
        OfflineGates x = Check.day("Oi30c0i01d1r00o3");
        Check.noSuch("would(3, 0)", () -> x.would(3, 0));
        Check.noSuch("would(-1, 0)", () -> x.would(-1, 0));
        Check.noSuch("would(0, 4)", () -> x.would(0, 4));
        Check.noSuch("would(0, -1)", () -> x.would(0, -1));
        x.pay(0, 4);
        x.pay(1, 1);
        String before = Check.picture(x);
        Check.due("too soon", x.would(0, 0), 4);
        Check.due("a double", x.would(1, 0), 0);
        Check.due("down", x.would(1, 1), 1);
        Check.due("open", x.would(1, 3), 2);
        Check.due("with what waits", x.would(2, 0), 0);
        Check.due("on credit", x.would(2, 1), 1);
        Check.same("would changes nothing", Check.picture(x), before);
        x.ride(1, 0);
        Check.due("blocked", x.would(1, 0), 3);
        x.set(1, 0);
        x.set(0, 0);
        Check.due("no credit", x.would(2, 1), 5);
        for (int i = 0; i < 12; i++) {
            x.ride(1, 1);
        }
        Check.due("a full log", x.would(1, 1), 6);
        x.set(2, 1);
        Check.due("a full log", x.would(1, 1), 7);
        x.undo();
        Check.due("would is no action", x.setting(2), 0);
    }

    // Promise 25
    private static void rides() {
        OfflineGates x = Check.day("Oi30d1");
        Check.noSuch("rides(1, 0)", () -> x.rides(1, 0));
        Check.noSuch("rides(-1, 0)", () -> x.rides(-1, 0));
        Check.noSuch("rides(0, 4)", () -> x.rides(0, 4));
        Check.noSuch("rides(0, -1)", () -> x.rides(0, -1));
        Check.due("rides of 2", x.rides(0, 0), 15);
        Check.due("down, until the log is full", x.rides(0, 1), 12);
        x.fare(1, 5);
        Check.due("down, until the credit ends", x.rides(0, 1), 8);
        x.fare(1, 2);
        x.set(2, 1);
        Check.due("through a full log", x.rides(0, 1), 100);
        x.open(2);
        Check.due("open", x.rides(0, 2), 100);
        x.ride(0, 0);
        Check.due("the pause has gone by each time", x.rides(0, 0), 14);
        x.set(1, 0);
        Check.due("without a pause", x.rides(0, 0), 14);
        x.pay(0, 11);
        Check.due("with what waits", x.rides(0, 0), 19);
        x.fare(0, 1);
        x.pay(0, 60);
        Check.due("99 rides", x.rides(0, 0), 99);
        x.pay(0, 1);
        Check.due("100 rides", x.rides(0, 0), 100);
        x.pay(0, 1);
        Check.due("101 rides", x.rides(0, 0), 100);
        OfflineGates y = Check.day("Oi90c0c0r00");
        String before = Check.picture(y);
        Check.due("a double blocks", y.rides(1, 0), 1);
        Check.same("rides changes nothing", Check.picture(y), before);
    }

    // Promise 25: "until it is refused", "100 if that is not less"
    private static void ridesUntilMoneyEnds() {
        int[][] cases = {{0, 1, 0}, {1, 1, 1}, {2, 1, 2}, {8, 9, 0}, {9, 9, 1}, {17, 9, 1}, {18, 9, 2}, {98, 1, 98}, {99, 1, 99}};
        for (int[] k : cases) {
            OfflineGates x = new OfflineGates();
            x.issue(k[0]);
            x.fare(3, k[1]);
            Check.due(k[0] + " for rides of " + k[1], x.rides(0, 3), k[2]);
        }
        for (int more = 1; more <= 3; more++) {
            OfflineGates x = Check.day("Oi98");
            x.fare(3, 1);
            x.pay(0, more);
            Check.due("98 and " + more + " that wait", x.rides(0, 3), Math.min(98 + more, 100));
        }
        OfflineGates y = Check.day("Oi00d1");
        Check.due("a credit of 10 for rides of 2", y.rides(0, 1), 5);
        y.set(0, 9);
        Check.due("a credit of 9 for rides of 2", y.rides(0, 1), 4);
        y.set(0, 1);
        Check.due("a credit of 1 for rides of 2", y.rides(0, 1), 0);
        y.set(0, 50);
        y.fare(1, 9);
        Check.due("a credit of 50 for rides of 9", y.rides(0, 1), 5);
        y.pay(0, 4);
        Check.due("what waits does not help while the line is down", y.rides(0, 1), 5);
        Check.due("nor the credit while it is up", y.rides(0, 0), 2);
    }

    // Promise 25: "let through at the gate (written or not)"
    private static void ridesUntilTheLogIsFull() {
        for (int n : new int[] {0, 1, 11, 12}) {
            OfflineGates x = Check.day("Oi99d2");
            x.set(1, 0);
            for (int i = 0; i < n; i++) {
                x.ride(0, 2);
            }
            Check.due("room behind " + n, x.rides(0, 2), 12 - n);
            x.set(2, 1);
            Check.due("through a log of " + n, x.rides(0, 2), 100);
            x.set(0, 0);
            x.fare(2, 9);
            int paid = (99 - 2 * n) / 9;
            Check.due("until the money ends, behind " + n, x.rides(0, 2), paid >= 12 - n ? 100 : paid);
            x.open(2);
            x.set(2, 0);
            Check.due("an open gate", x.rides(0, 2), 100);
        }
        OfflineGates y = Check.day("Oi24d2");
        y.set(0, 0);
        y.set(2, 1);
        Check.due("no money for the first one that is not written", y.rides(0, 2), 12);
        y.set(0, 1);
        Check.due("1 too little", y.rides(0, 2), 12);
        y.set(0, 2);
        Check.due("just enough", y.rides(0, 2), 100);
        OfflineGates z = Check.day("Oi00d2");
        z.open(1);
        Check.due("an open gate without money", z.rides(0, 1), 100);
        z.set(0, 1);
        z.set(2, 1);
        Check.due("no credit, nothing in the log", z.rides(0, 2), 0);
    }

    /** A ride may put the card's own account on the list. */
    private static void ridesUntilBlocked() {
        for (int n = 1; n <= 6; n++) {
            OfflineGates x = Check.day("Oi90c0d1");
            x.set(1, 0);
            for (int i = 1; i < n; i++) {
                x.ride(0, 1);
            }
            x.ride(0, 0);
            Check.due("count " + n + " is a double, and blocks", x.rides(1, 0), n);
            Check.due("not while the line is down", x.rides(1, 1), 13 - n);
            Check.due("the other card goes on", x.rides(0, 0), (90 - 2 * n) / 2);
        }
        for (int money = 21; money <= 25; money++) {
            OfflineGates x = Check.day("Oi02c0r00r10");
            x.pay(0, money);
            x.pardon(0);
            int balance = money - 20;
            Check.due("a balance of " + balance, x.account(0, 0), balance);
            Check.due("blocked below 0: " + balance, x.rides(1, 0), balance / 2 + 1);
        }
        OfflineGates y = Check.day("Oi90c0r00r10d1");
        Check.due("blocked already", y.rides(0, 0), 0);
        Check.due("on the list already", y.rides(0, 1), 0);
        y.pardon(0);
        Check.due("pardoned, a balance of 68", y.rides(0, 0), 35);
        Check.due("still on the list", y.rides(0, 1), 0);
        y.open(1);
        Check.due("on the list of an open gate", y.rides(0, 1), 100);
    }

    // Promise 25: "behind so many minutes as setting 1 tells (ahead of the first one, too)"
    private static void ridesBehindPauses() {
        for (int pause : new int[] {0, 1, 5, 29, 30}) {
            OfflineGates x = Check.day("Oi22d1r00");
            x.set(1, pause);
            Check.due("now, pause " + pause, x.would(0, 0), pause == 0 ? 0 : 4);
            Check.due("pause " + pause, x.rides(0, 0), 10);
            Check.due("pause " + pause + ", line down", x.rides(0, 1), 12);
            Check.due("no minute went by", x.about(2), 0);
        }
    }

    /** Gate 0: a double at gate 1, and another ride; gate 1: three rides; gate 2: none, but down; gate 3 up. */
    private static OfflineGates waiting() {
        OfflineGates x = Check.day("Oi30c0i04d0d1d2");
        x.set(1, 0);
        x.fare(0, 4);
        x.fare(1, 3);
        x.ride(0, 0);
        x.ride(0, 0);
        x.ride(1, 1);
        x.ride(2, 1);
        x.ride(2, 1);
        return x;
    }

    // Promise 26
    private static void ifUp() {
        OfflineGates x = waiting();
        Check.noSuch("ifUp(4, 0)", () -> x.ifUp(4, 0));
        Check.noSuch("ifUp(-1, 0)", () -> x.ifUp(-1, 0));
        Check.noSuch("ifUp(4, 4)", () -> x.ifUp(4, 4));
        Check.badArgument("ifUp(0, 4)", () -> x.ifUp(0, 4));
        Check.badArgument("ifUp(0, -1)", () -> x.ifUp(0, -1));
        int[][] due = {{2, 0, 0, 8}, {3, 0, 2, 9}, {0, 0, 0, 0}, {0, 0, 0, 0}};
        String before = Check.picture(x);
        for (int g = 0; g < 4; g++) {
            for (int what = 0; what <= 3; what++) {
                Check.due("ifUp(" + g + ", " + what + ")", x.ifUp(g, what), due[g][what]);
            }
        }
        Check.same("ifUp changes nothing", Check.picture(x), before);
        x.up(0);
        int[][] then = {{0, 0, 0, 0}, {2, 1, 3, 6}, {0, 0, 0, 0}, {0, 0, 0, 0}};
        for (int g = 0; g < 4; g++) {
            for (int what = 0; what <= 3; what++) {
                Check.due("then ifUp(" + g + ", " + what + ")", x.ifUp(g, what), then[g][what]);
            }
        }
        x.up(1);
        Check.due("those that are blocked already", x.ifUp(3, 2), 3);
        Check.due("those that are blocked already", x.ifUp(2, 2), 3);
        x.set(1, 0);
        x.pay(0, 99);
        x.pardon(0);
        x.ride(1, 2);
        Check.due("doubles before do not count", x.ifUp(2, 1), 1);
        Check.due("rides before do not count", x.ifUp(2, 0), 0);
    }

    // Promise 26: "as if its log was empty, if the line is up"
    private static void ifUpWhileUp() {
        OfflineGates x = Check.day("Oi50i01c0r00r20d1r11d2r02");
        int[][] due = {{0, 0, 1, 0}, {1, 0, 3, 2}, {0, 0, 1, 0}, {0, 0, 1, 0}};
        for (int g = 0; g < 4; g++) {
            for (int w = 0; w <= 3; w++) {
                Check.due("ifUp(" + g + ", " + w + ")", x.ifUp(g, w), due[g][w]);
            }
        }
        OfflineGates y = new OfflineGates();
        for (int w = 0; w <= 3; w++) {
            Check.due("ifUp of a new object", y.ifUp(3, w), 0);
        }
    }

    private static void ifUpOfFullLogs() {
        for (int doubles = 0; doubles <= 12; doubles++) {
            OfflineGates x = Check.day("Oi99c0d3");
            x.set(0, 50);
            x.set(1, 0);
            x.set(3, 0);
            x.fare(3, 7);
            for (int i = 0; i < doubles; i++) {
                x.ride(1, 0);
            }
            for (int i = 0; i < 12; i++) {
                Check.due("ride", x.ride(0, 3), 1);
            }
            String what = doubles + " doubles of 12, ";
            Check.due(what + 0, x.ifUp(3, 0), 12 - doubles);
            Check.due(what + 1, x.ifUp(3, 1), doubles);
            Check.due(what + 2, x.ifUp(3, 2), doubles > 0 ? 1 : 0);
            Check.due(what + 3, x.ifUp(3, 3), 7 * (12 - doubles));
        }
    }

    // Promise 26: "the accounts that would be blocked then"
    private static void ifUpBlocks() {
        for (int money = 3; money <= 5; money++) {
            OfflineGates x = new OfflineGates();
            x.issue(99);
            x.issue(money);
            x.down(2);
            x.set(1, 0);
            x.ride(1, 2);
            x.ride(1, 2);
            Check.due(money + " for 2 rides", x.ifUp(2, 2), money < 4 ? 2 : 0);
            Check.due("up", x.up(2), 0);
            Check.due("then", x.about(10), money < 4 ? 2 : 0);
        }
        for (int fine = 47; fine <= 49; fine++) {
            OfflineGates x = Check.day("Oi50c0d2r12r00");
            x.set(3, fine);
            Check.due("the fine of now blocks, and the mark", x.ifUp(2, 2), 1);
            x.up(2);
            x.pardon(0);
            Check.due("fine " + fine, x.about(10), fine > 48 ? 1 : 0);
        }
    }

    // Promise 27
    private static void bestUp() {
        Check.due("all up", new OfflineGates().bestUp(), -1);
        OfflineGates x = waiting();
        Check.due("bestUp", x.bestUp(), 1);
        x.up(0);
        x.down(0);
        Check.due("doubles left out, still 6", x.bestUp(), 1);
        x.up(1);
        Check.due("none has rides: the lowest that is down", x.bestUp(), 0);
        x.up(0);
        Check.due("the only one that is down", x.bestUp(), 2);
        x.up(2);
        Check.due("all up", x.bestUp(), -1);
        OfflineGates y = Check.day("Oi50c0d1d2r01r12");
        Check.due("of several the lowest", y.bestUp(), 1);
        y.fare(2, 3);
        y.run(5);
        y.ride(0, 2);
        Check.due("the greater", y.bestUp(), 2);
        y.up(1);
        Check.due("the only one", y.bestUp(), 2);
    }

    // Promise 27: "of the gates whose line is down", "NONE if there is none"
    private static void bestUpOfEach() {
        for (int g = 0; g < 4; g++) {
            OfflineGates x = Check.day("Oi90");
            x.down(g);
            Check.due("the only gate that is down, with an empty log", x.bestUp(), g);
            for (int other = 3; other >= 0; other--) {
                if (other != g) {
                    x.down(other);
                }
            }
            Check.due("four empty logs", x.bestUp(), 0);
            x.ride(0, g);
            Check.due("the only log with a ride", x.bestUp(), g);
            x.up(g);
            Check.due("the lowest of the others", x.bestUp(), g == 0 ? 1 : 0);
        }
    }

    // Promise 27: ifUp(g, 3) tells the fares, and not how many rides there are
    private static void bestUpByFares() {
        for (int few = 0; few < 4; few++) {
            for (int many = 0; many < 4; many++) {
                if (few != many) {
                    OfflineGates x = Check.day("Oi90d0d1d2d3");
                    x.set(1, 0);
                    x.fare(few, 7);
                    x.ride(0, few);
                    x.ride(0, many);
                    x.ride(0, many);
                    x.ride(0, many);
                    Check.due("7 at " + few + ", 3 times 2 at " + many, x.bestUp(), few);
                    x.ride(0, many);
                    Check.due("7 at " + few + ", 4 times 2 at " + many, x.bestUp(), many);
                }
            }
        }
    }

    // Promise 27: "the one with the greatest ifUp(g, 3), of several the lowest"
    private static void bestUpOfSeveral() {
        for (int low = 0; low < 4; low++) {
            for (int high = low + 1; high < 4; high++) {
                OfflineGates x = Check.day("Oi90i90d0d1d2d3");
                x.set(1, 0);
                x.fare(low, 4);
                x.fare(high, 4);
                x.ride(0, high);
                x.ride(1, low);
                Check.due("4 at " + low + " and " + high, x.bestUp(), low);
                x.fare(high, 1);
                x.ride(0, high);
                Check.due("5 at " + high, x.bestUp(), high);
                x.fare(low, 1);
                x.ride(1, low);
                Check.due("5 at both", x.bestUp(), low);
            }
        }
        OfflineGates y = Check.day("Oi90c0i90d1d2r21");
        y.set(1, 0);
        y.ride(0, 2);
        y.ride(0, 2);
        Check.due("4 at gate 2", y.bestUp(), 2);
        y.ride(1, 0);
        Check.due("a double less: 2 at both", y.bestUp(), 1);
        y.ride(1, 0);
        Check.due("two doubles less", y.bestUp(), 1);
        y.up(1);
        Check.due("only doubles at the only gate", y.bestUp(), 2);
        y.down(3);
        Check.due("0 at both", y.bestUp(), 2);
    }

    // Promise 28
    private static void worst() {
        Check.due("no accounts", new OfflineGates().worst(), -1);
        OfflineGates x = Check.day("Oi20i10i10c1d0");
        Check.due("the lowest of several", x.worst(), 1);
        x.fare(0, 5);
        x.ride(0, 0);
        Check.due("15 to 10 to 10", x.worst(), 1);
        x.ride(2, 0);
        Check.due("15 to 10 to 5", x.worst(), 2);
        x.ride(1, 0);
        x.fare(0, 1);
        x.ride(3, 0);
        Check.due("doubles, too", x.worst(), 1);
        OfflineGates y = Check.day("Oi00");
        Check.due("the only one", y.worst(), 0);
    }

    // Promise 28: "is least, of several the lowest"
    private static void worstOfEach() {
        for (int a = 0; a < 8; a++) {
            OfflineGates x = new OfflineGates();
            for (int i = 0; i < 8; i++) {
                x.issue(i == a ? 20 : 21);
            }
            Check.due("1 less", x.worst(), a);
            x.pay(a, 1);
            Check.due("all alike", x.worst(), 0);
            x.pay(a, 1);
            Check.due("1 more", x.worst(), a == 0 ? 1 : 0);
            x.down(1);
            x.down(3);
            x.fare(1, 1);
            x.fare(3, 2);
            x.set(1, 0);
            x.ride(a, 1);
            Check.due("a ride in a log: all alike", x.worst(), 0);
            x.ride(a, 3);
            Check.due("rides in two logs: 2 less", x.worst(), a);
            x.up(1);
            x.up(3);
            Check.due("settled: 2 less", x.worst(), a);
        }
        OfflineGates y = Check.day("Oi00i00d0r10u0");
        Check.due("below 0", y.worst(), 1);
        y.pay(1, 2);
        Check.due("both 0", y.worst(), 0);
        OfflineGates w = Check.day("Oi40i30c0d0d1r00r21");
        Check.due("two rides with one count in logs: 36, with no fine", w.worst(), 1);
        w.up(0);
        Check.due("one is settled", w.worst(), 1);
        w.up(1);
        Check.due("40 - 2 - 20", w.worst(), 0);
        OfflineGates z = Check.day("Oi41i20c0r00r20");
        Check.due("a mark does not matter", z.worst(), 0);
        z.pay(0, 1);
        Check.due("20 both, the lowest", z.worst(), 0);
        z.pay(0, 1);
        Check.due("21 and marked, and 20", z.worst(), 1);
    }

    // Promise 29
    private static void owes() {
        OfflineGates x = waiting();
        Check.noSuch("owes(2)", () -> x.owes(2));
        Check.noSuch("owes(-1)", () -> x.owes(-1));
        String before = Check.picture(x);
        Check.due("30 - 8 - 20", x.owes(0), 0);
        Check.due("4 - 6", x.owes(1), 2);
        Check.same("owes changes nothing", Check.picture(x), before);
        x.set(3, 99);
        Check.due("30 - 8 - 99", x.owes(0), 77);
        x.pay(0, 76);
        Check.due("less 76", x.owes(0), 1);
        x.pay(0, 1);
        Check.due("less 77", x.owes(0), 0);
        x.undo();
        x.up(1);
        Check.due("settled the other way: 30 + 76 - 3 - 4 - 99", x.owes(0), 0);
        x.up(0);
        Check.due("marked", x.account(0, 3), 1);
        Check.due("does not matter", x.owes(0), 0);
        OfflineGates y = Check.day("Oi00");
        Check.due("just 0", y.owes(0), 0);
        OfflineGates z = Check.day("Oi10c0d2d3");
        z.fare(2, 9);
        z.fare(3, 1);
        z.ride(0, 3);
        z.ride(1, 2);
        Check.due("the lowest gate first: 10 - 9 - 20", z.owes(0), 19);
    }

    // Promise 29: "the least amount (perhaps 0) that would have to be paid now"
    private static void owesJustEnough() {
        for (int money = 0; money <= 6; money++) {
            OfflineGates x = new OfflineGates();
            x.issue(money);
            x.down(0);
            x.down(3);
            x.set(1, 0);
            x.ride(0, 0);
            x.ride(0, 3);
            Check.due(money + " for two rides in logs", x.owes(0), Math.max(0, 4 - money));
            x.up(0);
            Check.due(money + ", one settled", x.owes(0), Math.max(0, 4 - money));
            x.up(3);
            Check.due(money + ", both settled", x.owes(0), Math.max(0, 4 - money));
            if (money < 4) {
                Check.due("paid", x.pay(0, 4 - money), 0);
                Check.due("then", x.owes(0), 0);
            }
        }
        String[] days = {"Oi05c0d0d1r00r11", "Oi30c0c0d1d3r00r11r23", "Oi09i09c0d0d2r00r12r22", "Oi02c0r00r10d1"};
        for (String day : days) {
            int owed = Check.day(day).owes(0);
            Check.isTrue("something is owed in " + day, owed > 1 && owed < 100);
            for (int less = 0; less <= 1; less++) {
                OfflineGates x = Check.day(day);
                x.pay(0, owed - less);
                Check.due("still owed in " + day, x.owes(0), less);
                for (int g = 0; g < 4; g++) {
                    if (x.gate(g, 1) == 0) {
                        x.up(g);
                    }
                }
                Check.due("the balance in " + day, x.account(0, 0), -less);
            }
        }
        OfflineGates y = Check.day("Oi22c0r00r10");
        Check.due("marked", y.account(0, 3), 1);
        Check.due("a balance of 0, marked", y.owes(0), 0);
        y.set(3, 99);
        Check.due("fines that were taken stay", y.owes(0), 0);
    }

    // Promise 29: "(those that are down, the lowest first)": of two rides with one count the first one has its fare
    private static void owesInOrder() {
        for (int low = 0; low < 4; low++) {
            for (int high = low + 1; high < 4; high++) {
                OfflineGates x = Check.day("Oi09c0d0d1d2d3");
                x.fare(low, 3);
                x.fare(high, 8);
                x.ride(0, high);
                x.ride(1, low);
                Check.due("3 at " + low + ", fine for " + high, x.owes(0), 3 + 20 - 9);
                x.up(high);
                Check.due("8 at " + high + ", fine for " + low, x.owes(0), 8 + 20 - 9);
            }
        }
    }
}
