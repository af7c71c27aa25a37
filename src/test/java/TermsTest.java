/** The section "Terms" of the document, but for rides (RideTest), the text (TextTest) and exceptions (RefusedTest). */
public final class TermsTest {
    public static void main(String[] args) {
        lastCall();
        manyMinutes();
        muchMoney();
        manyDoubles();
        eightAccounts();
        tenCards();
        blocked();
        allBlocked();
        newGates();
        openWhileLinesChange();
        fares();
        newSettings();
        rangesOfSettings();
        fourteenStates();
        fifteenStates();
        statesComeAndGo();
        equalStates();
        whatIsNoAction();
        whatIsNoState();
        Check.end();
    }

    // "An object is used for at most 512 calls after it has been made": the greatest counts of the first and the last account
    private static void lastCall() {
        for (int accounts : new int[] {1, 2, 8}) {
            OfflineGates x = new OfflineGates();
            for (int i = 0; i < accounts; i++) {
                x.issue(99);
            }
            int last = accounts - 1;
            x.set(1, 0);
            x.fare(0, 1);
            x.set(3, 0);
            for (int i = 0; i < 4; i++) {
                x.pay(last, 99);
            }
            int n = 512 - 23 - accounts;
            for (int i = 1; i <= n; i++) {
                Check.due("ride " + i, x.ride(last, 0), 0);
            }
            Check.due("the copy", x.copy(last), accounts);
            Check.due("a ride more", x.ride(last, 0), 0);
            Check.due("that count again", x.ride(accounts, 0), 0);
            Check.due("settled", x.account(last, 2), n + 1);
            Check.due("a double of a great count", x.about(5), 1);
            x.pardon(last);
            Check.due("the next count", x.ride(accounts, 0), 0);
            Check.due("no double", x.about(5), 1);
            Check.due("rides settled", x.about(3), n + 2);
            Check.due("balance", x.account(last, 0), 495 - n - 2);
            Check.due("until all is paid", x.rides(accounts, 0), 495 - n - 2);
            Check.due("count", x.card(last, 2), n + 1);
            Check.due("counts of a double are no doubles for another account", x.rides(0, 0), last == 0 ? 1 : 99);
            Check.due("undo", x.undo(), 13);
            Check.due("undo", x.undo(), 12);
            Check.due("call 512", x.account(last, 2), n + 1);
        }
    }

    // "Minutes are numbered from 0; now is the minute 0 at first."
    private static void manyMinutes() {
        OfflineGates x = Check.day("Oi09");
        Check.due("now", x.about(2), 0);
        x.set(1, 30);
        x.ride(0, 0);
        for (int i = 1; i <= 490; i++) {
            Check.due("run", x.run(60), 60 * i);
        }
        Check.due("a late ride", x.ride(0, 0), 0);
        Check.due("its minute", x.card(0, 3), 29400);
        Check.due("too soon", x.would(0, 1), 4);
        Check.due("save", x.save(0), 29400);
        Check.due("restore", x.restore(0), 29400);
    }

    private static void muchMoney() {
        OfflineGates x = new OfflineGates();
        x.issue(99);
        for (int i = 1; i <= 500; i++) {
            Check.due("pay", x.pay(0, 99), 99 + 99 * i);
        }
        Check.due("waits", x.account(0, 1), 49500);
        Check.due("ride", x.ride(0, 3), 0);
        Check.due("money", x.card(0, 1), 49597);
        Check.due("waits no more", x.account(0, 1), 0);
        Check.due("100 rides", x.rides(0, 3), 100);
        Check.due("worst", x.worst(), 0);
    }

    /** 12 counts that were settled come in again from the logs of four gates, from other cards. */
    private static void manyDoubles() {
        OfflineGates x = Check.day("Oi99c0c0c0c0d0d1d2d3");
        x.set(0, 50);
        x.set(1, 0);
        for (int i = 0; i < 12; i++) {
            for (int g = 0; g < 4; g++) {
                x.ride(g, g);
            }
        }
        x.set(3, 99);
        Check.due("owes: 24 for 12 rides, 36 fines", x.owes(0), 24 + 36 * 99 - 99);
        Check.due("the first gate has none", x.up(0), 0);
        for (int g = 1; g < 4; g++) {
            Check.due("doubles", x.up(g), 12);
        }
        Check.due("balance", x.account(0, 0), 99 - 24 - 36 * 99);
        Check.due("doubles so far", x.about(5), 36);
        Check.due("settled so far", x.about(3), 12);
        Check.due("owes", x.owes(0), 24 + 36 * 99 - 99);
    }

    // "There are at most 8 accounts, numbered from 0"
    private static void eightAccounts() {
        OfflineGates x = new OfflineGates();
        for (int i = 0; i < 8; i++) {
            int a = i;
            Check.noSuch("no account yet", () -> x.account(a, 0));
            Check.noSuch("no card yet", () -> x.card(a, 0));
            Check.noSuch("nobody to pay for yet", () -> x.pay(a, 1));
            Check.noSuch("nobody to pardon yet", () -> x.pardon(a));
            Check.noSuch("nobody that owes yet", () -> x.owes(a));
            Check.due("cards", x.about(0), i);
            Check.due("accounts", x.about(1), i);
            Check.due("issue", x.issue(9 * i), i);
            Check.due("its account", x.card(i, 0), i);
            Check.due("its balance", x.account(i, 0), 9 * i);
            Check.due("its cards", x.account(i, 5), 1);
        }
        Check.badState("a 9th account", () -> x.issue(0));
        Check.noSuch("account 8", () -> x.account(8, 0));
        Check.noSuch("pay(8, 1)", () -> x.pay(8, 1));
        Check.noSuch("owes(8)", () -> x.owes(8));
        Check.due("accounts", x.about(1), 8);
        Check.due("a copy of the last one", x.copy(7), 8);
        Check.due("of the last account", x.card(8, 0), 7);
        Check.due("pay", x.pay(7, 1), 64);
    }

    // "and at most 10 cards, numbered from 0, each of one account"
    private static void tenCards() {
        OfflineGates x = new OfflineGates();
        x.issue(40);
        for (int i = 1; i < 10; i++) {
            int c = i;
            Check.noSuch("no card yet", () -> x.card(c, 0));
            Check.noSuch("no card to show yet", () -> x.ride(c, 0));
            Check.noSuch("no card to show yet", () -> x.would(c, 0));
            Check.noSuch("no card to copy yet", () -> x.copy(c));
            Check.due("copy", x.copy(i - 1), i);
            Check.due("its account", x.card(i, 0), 0);
            Check.due("its money", x.card(i, 1), 40);
        }
        Check.badState("an 11th card", () -> x.copy(9));
        Check.noSuch("card 10", () -> x.card(10, 0));
        Check.noSuch("ride(10, 0)", () -> x.ride(10, 0));
        Check.noSuch("rides(10, 0)", () -> x.rides(10, 0));
        Check.due("cards of account 0", x.account(0, 5), 10);
        Check.due("the last card rides", x.ride(9, 3), 0);
        Check.due("accounts", x.about(1), 1);
    }

    // "An account is blocked if its balance is less than 0, or it is marked."
    private static void blocked() {
        OfflineGates x = Check.day("Oi00c0d0r00r10");
        x.set(3, 0);
        Check.due("balance 0", x.account(0, 4), 0);
        Check.due("the set", x.about(10), 0);
        x.fare(0, 9);
        Check.due("a double", x.up(0), 1);
        Check.due("balance", x.account(0, 0), -2);
        Check.due("below 0 and marked", x.account(0, 4), 1);
        Check.due("pay", x.pay(0, 2), 0);
        Check.due("marked alone", x.account(0, 4), 1);
        Check.due("the set", x.about(10), 1);
        Check.due("pardon", x.pardon(0), 0);
        Check.due("neither", x.account(0, 4), 0);
        Check.due("the set", x.about(10), 0);
        OfflineGates y = Check.day("Oi01i09d0r00u0");
        Check.due("balance", y.account(0, 0), -1);
        Check.due("below 0 alone", y.account(0, 4), 1);
        Check.due("the set", y.about(10), 1);
        y.pay(0, 1);
        Check.due("just 0", y.account(0, 4), 0);
        OfflineGates z = Check.day("Oi22c0r00r10");
        Check.due("0 behind a fine", z.account(0, 0), 0);
        Check.due("marked at 0", z.account(0, 4), 1);
        z.pardon(0);
        Check.due("pardoned at 0", z.account(0, 4), 0);
    }

    private static void allBlocked() {
        OfflineGates x = Check.day("Oi01i01i01i01i01i01i01i01d0r00r10r20r30r40r50r60r70");
        Check.due("none yet", x.about(10), 0);
        Check.due("all if gate 0 comes up", x.ifUp(0, 2), 255);
        x.up(0);
        Check.due("all", x.about(10), 255);
        Check.due("the list of a line that is up", x.gate(1, 4), 255);
        Check.due("down", x.down(1), 255);
        for (int a = 0; a < 8; a += 2) {
            x.pay(a, 1);
        }
        Check.due("every other one", x.about(10), 0xAA);
        Check.due("the list of a line that is up", x.gate(2, 4), 0xAA);
        Check.due("the list of a line that is down", x.gate(1, 4), 255);
        Check.due("down", x.down(2), 0xAA);
        for (int c = 0; c < 8; c++) {
            Check.due("the older list", x.would(c, 1), 3);
            Check.due("the newer list", x.would(c, 2), c % 2 == 0 ? 4 : 3);
        }
    }

    // "There are 4 gates, 0 to 3. A gate has a fare, 1 to 9, at first 2; its line is up, or down, at first up; it stands
    // open, or not, at first not"
    private static void newGates() {
        OfflineGates x = new OfflineGates();
        for (int g = 0; g < 4; g++) {
            int[] due = {2, 1, 0, 0, 0};
            for (int w = 0; w <= 4; w++) {
                Check.due("gate(" + g + ", " + w + ")", x.gate(g, w), due[w]);
            }
        }
        Check.noSuch("gate -1", () -> x.gate(-1, 0));
        Check.noSuch("gate 4", () -> x.gate(4, 0));
        for (int g = 0; g < 4; g++) {
            String before = Check.picture(x);
            x.down(g);
            x.open(g);
            x.fare(g, 6);
            for (int other = 0; other < 4; other++) {
                Check.due("line of " + other, x.gate(other, 1), other == g ? 0 : 1);
                Check.due("fare of " + other, x.gate(other, 0), other == g ? 6 : 2);
                Check.due("open " + other, x.gate(other, 2), other == g ? 1 : 0);
            }
            x.up(g);
            x.open(g);
            x.fare(g, 2);
            Check.same("all as before", Check.picture(x), before);
        }
    }

    /** A line that goes down or comes up leaves a gate open or shut, and its fare as it is. */
    private static void openWhileLinesChange() {
        for (int g = 0; g < 4; g++) {
            OfflineGates x = Check.day("Oi20");
            x.fare(g, 5);
            x.open(g);
            x.down(g);
            Check.due("open and down", x.gate(g, 2), 1);
            Check.due("let through", x.ride(0, g), 2);
            x.up(g);
            Check.due("open and up", x.gate(g, 2), 1);
            Check.due("let through", x.ride(0, g), 2);
            Check.due("shut", x.open(g), 0);
            x.down(g);
            Check.due("shut and down", x.gate(g, 2), 0);
            Check.due("a fare of 5", x.ride(0, g), 1);
            Check.due("opened with a ride in its log", x.open(g), 1);
            Check.due("the log is kept", x.gate(g, 3), 1);
            Check.due("nothing more is written", x.ride(0, g), 2);
            Check.due("up", x.up(g), 0);
            Check.due("balance", x.account(0, 0), 15);
        }
    }

    private static void fares() {
        for (int g = 0; g < 4; g++) {
            int gate = g;
            OfflineGates x = Check.day("Oi99");
            Check.badArgument("fare 0", () -> x.fare(gate, 0));
            Check.badArgument("fare 10", () -> x.fare(gate, 10));
            Check.due("the first fare", x.fare(g, 1), 2);
            x.ride(0, g);
            Check.due("a fare of 1", x.card(0, 1), 98);
            Check.due("fare", x.fare(g, 9), 1);
            x.run(5);
            x.ride(0, g);
            Check.due("a fare of 9", x.account(0, 0), 89);
            Check.due("fare", x.fare(g, 9), 9);
            Check.due("fare", x.gate(g, 0), 9);
        }
    }

    // "0: the credit of a card, at first 10; 1: the pause between two rides, at first 5; 2: what a full log does, at first
    // 0; 3: the fine for a double, at first 20"
    private static void newSettings() {
        OfflineGates x = Check.day("Oi00c0d0r00r00");
        Check.due("pause 5", x.would(0, 0), 4);
        x.run(4);
        Check.due("pause 5", x.would(0, 0), 4);
        x.run(1);
        Check.due("pause 5", x.would(0, 0), 1);
        x.fare(0, 8);
        Check.due("credit 10", x.would(0, 0), 1);
        x.fare(0, 9);
        Check.due("credit 10", x.would(0, 0), 5);
        x.ride(1, 0);
        Check.due("fine 20 for the copy", x.owes(0), 2 + 20);
        OfflineGates y = Check.day("Oi99d0");
        y.set(1, 0);
        for (int i = 0; i < 12; i++) {
            y.ride(0, 0);
        }
        Check.due("a full log refuses", y.ride(0, 0), 6);
    }

    private static void rangesOfSettings() {
        int[] most = {50, 30, 1, 99};
        int[] first = {10, 5, 0, 20};
        for (int i = 0; i < 4; i++) {
            int what = i;
            OfflineGates x = new OfflineGates();
            Check.badArgument("below 0", () -> x.set(what, -1));
            Check.badArgument("1 too great", () -> x.set(what, most[what] + 1));
            Check.due("as at first", x.setting(what), first[what]);
            Check.due("to the greatest", x.set(what, most[what]), first[what]);
            Check.due("the greatest", x.setting(what), most[what]);
            Check.due("to 1 less", x.set(what, most[what] - 1), most[what]);
            Check.due("to 0", x.set(what, 0), most[what] - 1);
            Check.due("0", x.setting(what), 0);
            for (int other = 0; other < 4; other++) {
                Check.due("the others stay", x.setting(other), other == what ? 0 : first[other]);
            }
        }
    }

    // "At most 14 states are remembered"
    private static void fourteenStates() {
        for (int n = 1; n <= 14; n++) {
            OfflineGates x = new OfflineGates();
            for (int i = 1; i <= n; i++) {
                x.run(i);
            }
            for (int left = n - 1; left >= 0; left--) {
                Check.due("undo of " + n, x.undo(), left);
                Check.due("now", x.about(2), left * (left + 1) / 2);
            }
            Check.badState("undo of none", x::undo);
            Check.due("the state of a new object", x.about(2), 0);
        }
    }

    // "when one more is remembered, the oldest one is forgotten"
    private static void fifteenStates() {
        for (int n : new int[] {15, 16, 27, 28, 29, 30, 100}) {
            OfflineGates x = new OfflineGates();
            for (int i = 1; i <= n; i++) {
                x.run(i % 60 + 1);
            }
            int[] now = new int[n + 1];
            for (int i = 1; i <= n; i++) {
                now[i] = now[i - 1] + i % 60 + 1;
            }
            for (int left = 13; left >= 0; left--) {
                Check.due("undo of " + n, x.undo(), left);
                Check.due("now", x.about(2), now[n - 14 + left]);
            }
            Check.badState("undo of what is forgotten", x::undo);
            Check.due("that changed nothing", x.about(2), now[n - 14]);
        }
    }

    private static void statesComeAndGo() {
        OfflineGates x = new OfflineGates();
        for (int i = 0; i < 17; i++) {
            x.run(1);
        }
        Check.due("undo", x.undo(), 13);
        Check.due("undo", x.undo(), 12);
        Check.due("undo", x.undo(), 11);
        x.run(10);
        x.run(20);
        Check.due("now", x.about(2), 44);
        Check.due("undo", x.undo(), 12);
        Check.due("now", x.about(2), 24);
        Check.due("undo", x.undo(), 11);
        Check.due("now", x.about(2), 14);
        Check.due("undo is no action", x.undo(), 10);
        Check.due("now", x.about(2), 13);
        for (int i = 0; i < 4; i++) {
            x.run(30);
        }
        Check.due("again 14", x.undo(), 13);
        x.run(30);
        x.run(30);
        Check.due("and no more", x.undo(), 13);
        for (int left = 12; left >= 0; left--) {
            Check.due("undo", x.undo(), left);
        }
        Check.due("now", x.about(2), 4);
        Check.badState("undo", x::undo);
    }

    // "Each call of one of them that does not throw an exception is an action, also if nothing becomes different"
    private static void equalStates() {
        OfflineGates x = new OfflineGates();
        x.fare(0, 2);
        x.set(0, 10);
        x.fare(3, 2);
        x.set(3, 20);
        for (int left = 3; left >= 0; left--) {
            Check.due("undo", x.undo(), left);
        }
        OfflineGates y = Check.day("Oi00");
        y.run(1);
        for (int i = 0; i < 14; i++) {
            y.fare(1, 2);
        }
        for (int left = 13; left >= 0; left--) {
            Check.due("undo", y.undo(), left);
        }
        Check.due("the state ahead of run(1) is forgotten", y.about(2), 1);
    }

    // "(undo is none)", "load and restore are not actions"; a call that throws is none; nor is one of another section
    private static void whatIsNoAction() {
        OfflineGates x = Check.day("Oi20i20c1d1r01m05");
        Check.badState("behind load nothing is remembered", x::undo);
        x.save(0);
        x.restore(0);
        Check.badState("behind restore nothing is remembered", x::undo);
        x.run(7);
        x.clearText();
        x.append('O');
        x.errorPosition();
        x.about(0);
        x.card(0, 0);
        x.account(0, 0);
        x.gate(0, 0);
        x.logged(1, 0, 0);
        x.setting(0);
        x.would(0, 0);
        x.rides(0, 0);
        x.ifUp(1, 0);
        x.bestUp();
        x.worst();
        x.owes(0);
        x.runScript(1, 1000);
        x.simulate(1, 9);
        x.save(1);
        Check.badArgument("issue(100)", () -> x.issue(100));
        Check.noSuch("copy(3)", () -> x.copy(3));
        Check.noSuch("ride(0, 4)", () -> x.ride(0, 4));
        Check.badArgument("pay(0, 0)", () -> x.pay(0, 0));
        Check.badState("pardon(0)", () -> x.pardon(0));
        Check.badState("down(1)", () -> x.down(1));
        Check.badState("up(0)", () -> x.up(0));
        Check.noSuch("open(4)", () -> x.open(4));
        Check.badArgument("fare(0, 0)", () -> x.fare(0, 0));
        Check.badArgument("run(0)", () -> x.run(0));
        Check.badArgument("set(0, 51)", () -> x.set(0, 51));
        Check.due("undo of run(7)", x.undo(), 0);
        Check.due("now", x.about(2), 5);
        Check.badState("undo", x::undo);
    }

    // "the state, which consists of everything but the text and the save slots"
    private static void whatIsNoState() {
        OfflineGates x = new OfflineGates();
        x.run(1);
        x.save(0);
        x.append('O');
        x.run(2);
        x.append('q');
        x.save(1);
        x.run(3);
        x.undo();
        x.undo();
        x.undo();
        Check.due("the text is not taken back", x.errorPosition(), 1);
        Check.due("now", x.about(2), 0);
        Check.due("slot 1 is not taken back", x.restore(1), 3);
        Check.due("the text is not restored", x.errorPosition(), 1);
        Check.due("slot 0 is not taken back", x.restore(0), 1);
        Check.due("the text is not restored", x.clearText(), 2);
        x.restore(1);
        Check.due("the text is not restored", x.clearText(), 0);
    }
}
