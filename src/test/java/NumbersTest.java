/** Promises 6 to 11: what there is. */
public final class NumbersTest {
    public static void main(String[] args) {
        about();
        countsOfOutcomes();
        countsOfFares();
        card();
        minusOne();
        account();
        gate();
        logged();
        setting();
        Check.end();
    }

    /**
     * Two accounts, a copy of each card; card 2 (account 0) rides a count that is settled, so that
     * account 0 is marked; gate 1 has two rides in its log, gate 2 one.
     */
    private static OfflineGates busy() {
        OfflineGates x = new OfflineGates();
        x.issue(40);       // card 0, account 0
        x.issue(30);       // card 1, account 1
        x.copy(0);         // card 2
        x.copy(1);         // card 3
        x.down(1);
        x.down(2);
        x.fare(1, 5);
        x.fare(2, 7);
        x.fare(0, 3);
        x.ride(0, 0);      // settled, fare 3
        x.ride(1, 1);      // logged, fare 5
        x.ride(2, 0);      // double
        x.run(4);
        x.ride(1, 1);      // too soon
        x.ride(0, 0);      // blocked
        x.run(3);
        x.ride(2, 2);      // logged, fare 7: the list of gate 2 is old
        x.ride(1, 1);      // logged, fare 5
        x.open(3);
        x.ride(0, 3);      // let through, nothing written
        x.pay(1, 9);
        return x;
    }

    // Promise 6
    private static void about() {
        OfflineGates x = busy();
        int[] due = {4, 2, 7, 1, 3, 1, 3, 17, 2, 1, 1};
        for (int what = 0; what <= 10; what++) {
            Check.due("about(" + what + ")", x.about(what), due[what]);
        }
        Check.badArgument("about(-1)", () -> x.about(-1));
        Check.badArgument("about(11)", () -> x.about(11));
        Check.due("about(3) in a log is not settled", x.up(1), 0);
        Check.due("about(3)", x.about(3), 3);
        Check.due("about(4)", x.about(4), 13);
        Check.due("about(6)", x.about(6), 1);
        Check.due("about(7)", x.about(7), 7);
    }

    // Promise 6: "the rides that were refused so far", "how often a card was let through so far without anything being
    // written": which outcomes count for which number
    private static void countsOfOutcomes() {
        OfflineGates x = Check.day("Oi99i09c1d1");
        outcome(x, 0, 0, 0, new int[] {1, 0, 0, 0, 0});
        outcome(x, 1, 0, 0, new int[] {2, 0, 0, 0, 0});
        outcome(x, 2, 0, 0, new int[] {2, 1, 0, 0, 0});
        outcome(x, 2, 0, 3, new int[] {2, 1, 0, 1, 0});
        outcome(x, 0, 0, 4, new int[] {2, 1, 0, 2, 0});
        x.fare(1, 9);
        outcome(x, 2, 1, 4, new int[] {2, 1, 0, 3, 0});
        x.set(1, 0);
        outcome(x, 2, 1, 1, new int[] {2, 1, 1, 3, 0});
        outcome(x, 2, 1, 5, new int[] {2, 1, 1, 4, 0});
        x.fare(1, 1);
        for (int i = 2; i <= 12; i++) {
            outcome(x, 0, 1, 1, new int[] {2, 1, i, 4, 0});
        }
        outcome(x, 0, 1, 6, new int[] {2, 1, 12, 5, 0});
        x.set(2, 1);
        outcome(x, 0, 1, 7, new int[] {2, 1, 12, 5, 1});
        x.open(1);
        outcome(x, 0, 1, 2, new int[] {2, 1, 12, 5, 2});
        Check.due("doubles: count 2 of card 2 is none", x.up(1), 0);
        Check.due("settled", x.about(3), 14);
        Check.due("doubles", x.about(5), 1);
    }

    private static void outcome(OfflineGates x, int c, int g, int due, int[] totals) {
        String what = "ride(" + c + ", " + g + ")";
        Check.due(what, x.ride(c, g), due);
        Check.due(what + ": settled", x.about(3), totals[0]);
        Check.due(what + ": doubles", x.about(5), totals[1]);
        Check.due(what + ": in logs", x.about(6), totals[2]);
        Check.due(what + ": refused", x.about(8), totals[3]);
        Check.due(what + ": unwritten", x.about(9), totals[4]);
    }

    // Promise 6: "4: the fares of these together", "7: the fares of these together"
    private static void countsOfFares() {
        OfflineGates x = Check.day("Oi99c0d1d2");
        int settled = 0;
        int logged = 0;
        x.set(1, 0);
        for (int fare = 1; fare <= 9; fare++) {
            x.fare(0, fare);
            x.fare(1, 10 - fare);
            x.ride(0, 0);
            settled += fare;
            Check.due("settled", x.about(4), settled);
            if (fare <= 5) {
                x.ride(0, 1);
                logged += 10 - fare;
            }
            Check.due("in logs", x.about(7), logged);
            Check.due("of account 0", x.account(0, 7), logged);
        }
        x.fare(0, 3);
        x.ride(1, 0);
        Check.due("the fare of a double is not among them", x.about(4), settled);
        Check.due("no double comes up", x.up(1), 0);
        Check.due("settled", x.about(4), settled + logged);
        Check.due("in logs", x.about(7), 0);
    }

    // Promise 7
    private static void card() {
        OfflineGates x = busy();
        int[][] due = {{0, 37, 1, 0}, {1, 20, 2, 7}, {0, 30, 2, 7}, {1, 30, 0, -1}};
        for (int c = 0; c < 4; c++) {
            for (int what = 0; what <= 3; what++) {
                Check.due("card(" + c + ", " + what + ")", x.card(c, what), due[c][what]);
            }
        }
        Check.noSuch("card(4, 0)", () -> x.card(4, 0));
        Check.noSuch("card(-1, 0)", () -> x.card(-1, 0));
        Check.noSuch("card(4, 9)", () -> x.card(4, 9));
        Check.badArgument("card(0, -1)", () -> x.card(0, -1));
        Check.badArgument("card(3, 4)", () -> x.card(3, 4));
        OfflineGates y = Check.day("Oi01d0r00");
        Check.due("money below 0", y.card(0, 1), -1);
        Check.due("ride in the minute 0", y.card(0, 3), 0);
    }

    // Promise 7: "the money on it (it may be the same as NONE)"; promise 8: "its balance (it may be the same as NONE)"
    private static void minusOne() {
        OfflineGates x = Check.day("Oi01d3r03");
        Check.due("money", x.card(0, 1), -1);
        Check.due("balance", x.account(0, 0), 1);
        Check.due("up", x.up(3), 0);
        Check.due("balance", x.account(0, 0), -1);
        Check.due("pay", x.pay(0, 3), 2);
        Check.due("a copy", x.copy(0), 1);
        Check.due("its money", x.card(1, 1), -1);
        x.run(5);
        Check.due("-1 and 3 for 2", x.ride(1, 3), 0);
        Check.due("money", x.card(1, 1), 0);
    }

    // Promise 8
    private static void account() {
        OfflineGates x = busy();
        int[][] due = {{17, 0, 1, 1, 1, 2, 1, 7}, {39, 9, 0, 0, 0, 2, 2, 10}};
        for (int a = 0; a < 2; a++) {
            for (int what = 0; what <= 7; what++) {
                Check.due("account(" + a + ", " + what + ")", x.account(a, what), due[a][what]);
            }
        }
        Check.noSuch("account(2, 0)", () -> x.account(2, 0));
        Check.noSuch("account(-1, 0)", () -> x.account(-1, 0));
        Check.noSuch("account(2, 8)", () -> x.account(2, 8));
        Check.badArgument("account(0, -1)", () -> x.account(0, -1));
        Check.badArgument("account(0, 8)", () -> x.account(0, 8));
        x.copy(0);
        Check.due("its cards", x.account(0, 5), 3);
        Check.due("its cards", x.account(1, 5), 2);
        OfflineGates z = Check.day("Oi30i30d0d3r00r13r10");
        z.run(5);
        z.ride(1, 0);
        Check.due("in the log of gate 0", z.account(0, 6), 1);
        Check.due("in the logs of gates 0 and 3", z.account(1, 6), 2);
        Check.due("their fares", z.account(0, 7), 2);
        Check.due("their fares", z.account(1, 7), 4);
        Check.due("all", z.about(6), 3);
        Check.due("all fares", z.about(7), 6);
        OfflineGates y = Check.day("Oi01d0r00u0");
        Check.due("balance below 0", y.account(0, 0), -1);
        Check.due("not marked", y.account(0, 3), 0);
        Check.due("blocked by its balance", y.account(0, 4), 1);
        Check.due("the set", y.about(10), 1);
    }

    // Promise 9
    private static void gate() {
        OfflineGates x = busy();
        int[][] due = {{3, 1, 0, 0, 1}, {5, 0, 0, 2, 0}, {7, 0, 0, 1, 0}, {2, 1, 1, 0, 1}};
        for (int g = 0; g < 4; g++) {
            for (int what = 0; what <= 4; what++) {
                Check.due("gate(" + g + ", " + what + ")", x.gate(g, what), due[g][what]);
            }
        }
        Check.noSuch("gate(4, 0)", () -> x.gate(4, 0));
        Check.noSuch("gate(-1, 0)", () -> x.gate(-1, 0));
        Check.noSuch("gate(4, 5)", () -> x.gate(4, 5));
        Check.badArgument("gate(0, -1)", () -> x.gate(0, -1));
        Check.badArgument("gate(0, 5)", () -> x.gate(0, 5));
        x.down(0);
        x.pardon(0);
        Check.due("a list stays while the line is down", x.gate(0, 4), 1);
        Check.due("a list goes along while it is up", x.gate(3, 4), 0);
        x.up(0);
        Check.due("and again when it came up", x.gate(0, 4), 0);
    }

    // Promise 10
    private static void logged() {
        OfflineGates x = busy();
        int[][] due = {{1, 1, 1, 5}, {1, 1, 2, 5}, {2, 0, 2, 7}};
        int[] k = {0, 1, 0};
        for (int i = 0; i < 3; i++) {
            for (int what = 0; what <= 2; what++) {
                Check.due("logged", x.logged(due[i][0], k[i], what), due[i][1 + what]);
            }
        }
        Check.noSuch("logged(4, 0, 0)", () -> x.logged(4, 0, 0));
        Check.noSuch("logged(-1, 0, 0)", () -> x.logged(-1, 0, 0));
        Check.noSuch("logged(1, 2, 0)", () -> x.logged(1, 2, 0));
        Check.noSuch("logged(1, -1, 0)", () -> x.logged(1, -1, 0));
        Check.noSuch("logged(0, 0, 0)", () -> x.logged(0, 0, 0));
        Check.noSuch("logged(1, 2, 3)", () -> x.logged(1, 2, 3));
        Check.badArgument("logged(1, 0, 3)", () -> x.logged(1, 0, 3));
        Check.badArgument("logged(1, 0, -1)", () -> x.logged(1, 0, -1));
        x.up(1);
        Check.noSuch("logged in an empty log", () -> x.logged(1, 0, 0));
    }

    // Promise 11
    private static void setting() {
        OfflineGates x = new OfflineGates();
        int[] first = {10, 5, 0, 20};
        for (int what = 0; what <= 3; what++) {
            Check.due("setting(" + what + ")", x.setting(what), first[what]);
        }
        x.set(3, 99);
        Check.due("setting(3)", x.setting(3), 99);
        Check.badArgument("setting(-1)", () -> x.setting(-1));
        Check.badArgument("setting(4)", () -> x.setting(4));
    }
}
