/** Promises 12 to 23: the actions, and undo. */
public final class ActionsTest {
    /** One action of each kind, and rides with several outcomes. */
    private static final Check.Use[] ACTIONS = {
        x -> x.issue(9), x -> x.copy(1), x -> x.ride(2, 0), x -> x.ride(2, 1), x -> x.pay(0, 30),
        x -> x.down(0), x -> x.up(1), x -> x.pardon(0), x -> x.open(3), x -> x.ride(1, 3), x -> x.fare(2, 7),
        x -> x.run(9), x -> x.set(3, 0), x -> x.ride(0, 0)};

    public static void main(String[] args) {
        issue();
        copy();
        rideSettled();
        rideManyCounts();
        rideOrder();
        rideWaiting();
        rideDown();
        rideFullLog();
        pay();
        pardon();
        down();
        up();
        open();
        fare();
        run();
        set();
        undo();
        undoOfEach();
        undoOfLists();
        undoOfCounts();
        Check.end();
    }

    // Promise 12
    private static void issue() {
        OfflineGates x = new OfflineGates();
        Check.badArgument("issue(-1)", () -> x.issue(-1));
        Check.badArgument("issue(100)", () -> x.issue(100));
        Check.due("issue(0)", x.issue(0), 0);
        Check.due("issue(99)", x.issue(99), 1);
        Check.due("balance", x.account(1, 0), 99);
        Check.due("waits", x.account(1, 1), 0);
        Check.due("money", x.card(1, 1), 99);
        Check.due("account", x.card(1, 0), 1);
        Check.due("rides", x.card(1, 2), 0);
        Check.due("latest", x.card(1, 3), -1);
        Check.due("copy", x.copy(0), 2);
        Check.due("issue", x.issue(5), 3);
        Check.due("the account of card 3", x.card(3, 0), 2);
        for (int i = 4; i <= 8; i++) {
            Check.due("issue", x.issue(1), i);
        }
        Check.due("accounts", x.about(1), 8);
        Check.badState("a 9th account", () -> x.issue(1));
        Check.badArgument("issue(100) of 8", () -> x.issue(100));
        OfflineGates y = new OfflineGates();
        y.issue(1);
        for (int i = 1; i <= 9; i++) {
            y.copy(0);
        }
        Check.badState("an 11th card", () -> y.issue(1));
        Check.due("no account came of it", y.about(1), 1);
    }

    // Promise 13
    private static void copy() {
        OfflineGates x = new OfflineGates();
        Check.noSuch("copy(0)", () -> x.copy(0));
        x.issue(20);
        x.issue(30);
        x.run(3);
        x.ride(1, 0);
        x.pay(1, 5);
        Check.noSuch("copy(2)", () -> x.copy(2));
        Check.noSuch("copy(-1)", () -> x.copy(-1));
        Check.due("copy(1)", x.copy(1), 2);
        int[] due = {1, 28, 1, 3};
        for (int what = 0; what <= 3; what++) {
            Check.due("card(2, " + what + ")", x.card(2, what), due[what]);
        }
        Check.due("accounts", x.about(1), 2);
        for (int c = 3; c <= 9; c++) {
            Check.due("copy(0)", x.copy(0), c);
        }
        Check.badState("copy of 10", () -> x.copy(0));
        Check.noSuch("copy(10) of 10", () -> x.copy(10));
    }

    // Promise 14, settled at once
    private static void rideSettled() {
        OfflineGates x = new OfflineGates();
        Check.noSuch("ride(0, 0)", () -> x.ride(0, 0));
        x.issue(10);
        Check.noSuch("ride(0, 4)", () -> x.ride(0, 4));
        Check.noSuch("ride(0, -1)", () -> x.ride(0, -1));
        Check.noSuch("ride(-1, 0)", () -> x.ride(-1, 0));
        Check.noSuch("ride(1, 0)", () -> x.ride(1, 0));
        Check.due("no ride was refused", x.about(8), 0);
        x.copy(0);
        x.run(2);
        Check.due("ride", x.ride(0, 3), 0);
        Check.due("money", x.card(0, 1), 8);
        Check.due("count", x.card(0, 2), 1);
        Check.due("latest", x.card(0, 3), 2);
        Check.due("balance", x.account(0, 0), 8);
        Check.due("settled", x.account(0, 2), 1);
        x.set(3, 7);
        Check.due("a double is 0, too", x.ride(1, 0), 0);
        Check.due("the copy paid", x.card(1, 1), 8);
        Check.due("balance less the fine", x.account(0, 0), 1);
        Check.due("marked", x.account(0, 3), 1);
        Check.due("settled", x.account(0, 2), 1);
        Check.due("rides settled", x.about(3), 1);
        Check.due("fares", x.about(4), 2);
        Check.due("doubles", x.about(5), 1);
        Check.due("now it is blocked", x.ride(1, 0), 3);
    }

    // Promise 14, many counts of several accounts
    private static void rideManyCounts() {
        OfflineGates x = Check.day("Oi99i99i99c1");
        x.set(1, 0);
        x.set(3, 1);
        x.fare(0, 1);
        for (int i = 1; i <= 70; i++) {
            Check.due("ride", x.ride(0, 0), 0);
            Check.due("ride", x.ride(1, 0), 0);
        }
        Check.due("no doubles", x.about(5), 0);
        Check.due("balance", x.account(0, 0), 29);
        Check.due("counts", x.account(1, 2), 70);
        for (int i = 1; i <= 70; i++) {
            x.ride(3, 0);
            x.ride(2, 0);
            Check.due("doubles", x.about(5), i);
            x.pay(1, 1);
            x.pardon(1);
        }
        Check.due("no doubles of account 2", x.account(2, 2), 70);
        Check.due("rides", x.about(3), 210);
        OfflineGates y = Check.day("Oi90c0");
        y.set(1, 0);
        y.set(3, 0);
        y.fare(0, 1);
        for (int i = 1; i <= 40; i++) {
            y.ride(0, 0);
        }
        for (int i = 1; i <= 40; i++) {
            y.ride(1, 0);
            Check.due("doubles of account 0", y.about(5), i);
            y.pardon(0);
        }
    }

    // Promise 14, what is looked at first
    private static void rideOrder() {
        OfflineGates x = Check.day("Oi03c0r00r10");
        x.open(1);
        Check.due("open before the list", x.ride(0, 1), 2);
        Check.due("money", x.card(0, 1), 1);
        Check.due("count", x.card(0, 2), 1);
        Check.due("unwritten", x.about(9), 1);
        Check.due("list before pause", x.ride(0, 0), 3);
        x.pay(0, 99);
        x.pardon(0);
        Check.due("pause", x.ride(0, 0), 4);
        OfflineGates y = Check.day("Oi03r00");
        Check.due("pause before money", y.ride(0, 0), 4);
        y.run(4);
        Check.due("4 minutes", y.ride(0, 0), 4);
        y.run(1);
        Check.due("5 minutes, no money", y.ride(0, 0), 5);
        y.fare(0, 1);
        Check.due("just enough", y.ride(0, 0), 0);
        Check.due("money", y.card(0, 1), 0);
        Check.due("refused", y.about(8), 3);
        y.set(1, 30);
        y.pay(0, 20);
        Check.due("a long pause", y.ride(0, 0), 4);
        y.run(29);
        Check.due("29 minutes", y.ride(0, 0), 4);
        y.run(1);
        Check.due("30 minutes", y.ride(0, 0), 0);
        Check.due("30 minutes", y.ride(0, 0), 4);
        y.set(1, 0);
        y.down(0);
        Check.due("no pause at all", y.ride(0, 0), 1);
        Check.due("no pause at all", y.ride(0, 0), 1);
    }

    // Promise 14, money that waits
    private static void rideWaiting() {
        OfflineGates x = Check.day("Oi10c0d1");
        x.pay(0, 20);
        Check.due("open", x.open(2), 1);
        x.ride(0, 2);
        Check.due("waits at an open gate", x.account(0, 1), 20);
        x.ride(0, 1);
        Check.due("waits at a gate that is down", x.account(0, 1), 20);
        x.pay(0, 5);
        Check.due("refused", x.ride(0, 0), 4);
        Check.due("money came to the card", x.card(0, 1), 33);
        Check.due("waits no more", x.account(0, 1), 0);
        Check.due("the copy", x.ride(1, 0), 0);
        Check.due("gets none", x.card(1, 1), 8);
        OfflineGates y = Check.day("Oi00");
        y.fare(0, 9);
        y.pay(0, 9);
        Check.due("pays with what waited", y.ride(0, 0), 0);
        OfflineGates z = Check.day("Oi09c0r00r10t005");
        Check.due("blocked", z.ride(1, 0), 3);
        Check.due("money came also to a blocked one", z.card(1, 1), 12);
    }

    // Promise 14, the line is down
    private static void rideDown() {
        OfflineGates x = Check.day("Oi05d0");
        x.set(1, 0);
        x.fare(0, 5);
        Check.due("logged", x.ride(0, 0), 1);
        Check.due("balance as it was", x.account(0, 0), 5);
        Check.due("to -5", x.ride(0, 0), 1);
        Check.due("to -10, just the credit", x.ride(0, 0), 1);
        x.fare(0, 1);
        Check.due("to -11", x.ride(0, 0), 5);
        x.set(0, 11);
        Check.due("to -11", x.ride(0, 0), 1);
        Check.due("money", x.card(0, 1), -11);
        x.set(0, 0);
        Check.due("no credit", x.ride(0, 0), 5);
        OfflineGates y = Check.day("Oi09c0d1r00r10d2");
        Check.due("an old list does not know", y.gate(1, 4), 0);
        y.run(5);
        Check.due("old list", y.ride(0, 1), 1);
        Check.due("new list", y.ride(1, 2), 3);
    }

    // Promise 14, a full log
    private static void rideFullLog() {
        OfflineGates x = Check.day("Oi50d0");
        x.set(1, 0);
        for (int i = 1; i <= 12; i++) {
            Check.due("logged", x.ride(0, 0), 1);
            Check.due("in the log", x.gate(0, 3), i);
        }
        Check.due("full", x.ride(0, 0), 6);
        Check.due("refused", x.about(8), 1);
        x.set(2, 1);
        Check.due("full, let through", x.ride(0, 0), 7);
        Check.due("count", x.card(0, 2), 12);
        Check.due("money", x.card(0, 1), 26);
        Check.due("unwritten", x.about(9), 1);
        Check.due("refused", x.about(8), 1);
        OfflineGates y = Check.day("Oi24d0");
        y.set(1, 0);
        y.set(0, 0);
        y.set(2, 1);
        for (int i = 0; i < 12; i++) {
            y.ride(0, 0);
        }
        Check.due("money before the log", y.ride(0, 0), 5);
        y.set(1, 30);
        Check.due("pause before money", y.ride(0, 0), 4);
    }

    // Promise 15
    private static void pay() {
        OfflineGates x = Check.day("Oi01d0r00u0");
        Check.noSuch("pay(1, 1)", () -> x.pay(1, 1));
        Check.noSuch("pay(-1, 1)", () -> x.pay(-1, 1));
        Check.noSuch("pay(1, 0)", () -> x.pay(1, 0));
        Check.badArgument("pay(0, 0)", () -> x.pay(0, 0));
        Check.badArgument("pay(0, 100)", () -> x.pay(0, 100));
        Check.due("pay(0, 1)", x.pay(0, 1), 0);
        Check.due("not blocked", x.account(0, 4), 0);
        Check.due("pay(0, 99)", x.pay(0, 99), 99);
        Check.due("waits", x.account(0, 1), 100);
        Check.due("the card", x.card(0, 1), -1);
    }

    // Promise 16
    private static void pardon() {
        OfflineGates x = Check.day("Oi05c0r00r10i01");
        Check.noSuch("pardon(2)", () -> x.pardon(2));
        Check.noSuch("pardon(-1)", () -> x.pardon(-1));
        Check.badState("pardon(1)", () -> x.pardon(1));
        Check.due("pardon(0)", x.pardon(0), -17);
        Check.due("marked", x.account(0, 3), 0);
        Check.due("blocked still", x.account(0, 4), 1);
        Check.badState("pardon(0) again", () -> x.pardon(0));
    }

    // Promise 17
    private static void down() {
        OfflineGates x = Check.day("Oi05i05c1r10r20");
        Check.noSuch("down(4)", () -> x.down(4));
        Check.noSuch("down(-1)", () -> x.down(-1));
        Check.due("down(3)", x.down(3), 2);
        Check.due("line", x.gate(3, 1), 0);
        Check.badState("down(3)", () -> x.down(3));
        x.pay(1, 50);
        x.pardon(1);
        Check.due("down(0)", x.down(0), 0);
        Check.due("the list of 3 stays", x.gate(3, 4), 2);
    }

    // Promise 18
    private static void up() {
        OfflineGates x = Check.day("Oi60c0i30d0d1r00r11");
        Check.noSuch("up(4)", () -> x.up(4));
        Check.noSuch("up(-1)", () -> x.up(-1));
        Check.badState("up(2)", () -> x.up(2));
        x.run(5);
        x.fare(0, 4);
        x.ride(0, 0);
        x.ride(1, 1);
        x.ride(2, 0);
        Check.due("up(0)", x.up(0), 0);
        Check.due("balance", x.account(0, 0), 54);
        Check.due("balance of 1", x.account(1, 0), 26);
        Check.due("log", x.gate(0, 3), 0);
        Check.due("line", x.gate(0, 1), 1);
        x.set(3, 33);
        Check.due("up(1): two counts that were settled", x.up(1), 2);
        Check.due("two fines as set now", x.account(0, 0), -12);
        Check.due("marked", x.account(0, 3), 1);
        Check.due("doubles", x.about(5), 2);
        Check.due("settled", x.about(3), 3);
        Check.due("fares", x.about(4), 10);
        Check.due("list", x.gate(1, 4), 1);
        OfflineGates y = Check.day("Oi60c0d0r00r10");
        Check.due("a double within one log", y.up(0), 1);
        Check.due("down and up again", y.down(0), 1);
        Check.due("nothing is settled again", y.up(0), 0);
    }

    // Promise 19
    private static void open() {
        OfflineGates x = Check.day("Oi01");
        Check.noSuch("open(4)", () -> x.open(4));
        Check.noSuch("open(-1)", () -> x.open(-1));
        Check.due("open(0)", x.open(0), 1);
        Check.due("gate", x.gate(0, 2), 1);
        Check.due("ride", x.ride(0, 0), 2);
        Check.due("latest ride", x.card(0, 3), -1);
        Check.due("open(0)", x.open(0), 0);
        Check.due("ride", x.ride(0, 0), 5);
        x.down(3);
        Check.due("open(3) while it is down", x.open(3), 1);
        Check.due("still down", x.gate(3, 1), 0);
        Check.due("ride", x.ride(0, 3), 2);
        Check.due("log", x.gate(3, 3), 0);
    }

    // Promise 20
    private static void fare() {
        OfflineGates x = Check.day("Oi50d1r01");
        Check.noSuch("fare(4, 1)", () -> x.fare(4, 1));
        Check.noSuch("fare(-1, 0)", () -> x.fare(-1, 0));
        Check.badArgument("fare(0, 0)", () -> x.fare(0, 0));
        Check.badArgument("fare(0, 10)", () -> x.fare(0, 10));
        Check.due("fare(1, 9)", x.fare(1, 9), 2);
        Check.due("fare(1, 1)", x.fare(1, 1), 9);
        Check.due("fare(0, 3)", x.fare(0, 3), 2);
        Check.due("rides in a log stay", x.logged(1, 0, 2), 2);
        x.up(1);
        Check.due("and are settled so", x.account(0, 0), 48);
    }

    // Promise 21
    private static void run() {
        OfflineGates x = new OfflineGates();
        Check.badArgument("run(0)", () -> x.run(0));
        Check.badArgument("run(61)", () -> x.run(61));
        Check.badArgument("run(-5)", () -> x.run(-5));
        Check.due("run(1)", x.run(1), 1);
        Check.due("run(60)", x.run(60), 61);
        Check.due("now", x.about(2), 61);
    }

    // Promise 22
    private static void set() {
        OfflineGates x = new OfflineGates();
        int[] most = {50, 30, 1, 99};
        int[] first = {10, 5, 0, 20};
        for (int w = 0; w <= 3; w++) {
            int what = w;
            Check.badArgument("set below", () -> x.set(what, -1));
            Check.badArgument("set above", () -> x.set(what, most[what] + 1));
            Check.due("set to 0", x.set(what, 0), first[what]);
            Check.due("set to most", x.set(what, most[what]), 0);
            Check.due("setting", x.setting(what), most[what]);
        }
        Check.badArgument("set(4, 0)", () -> x.set(4, 0));
        Check.badArgument("set(-1, 0)", () -> x.set(-1, 0));
    }

    // Promise 23
    private static void undo() {
        OfflineGates x = new OfflineGates();
        Check.badState("undo", x::undo);
        for (int i = 1; i <= 20; i++) {
            x.run(i);
        }
        for (int left = 13; left >= 0; left--) {
            Check.due("undo", x.undo(), left);
            int last = 6 + left;
            Check.due("minute", x.about(2), last * (last + 1) / 2);
        }
        Check.badState("undo of what is forgotten", x::undo);
        x.set(0, 10);
        Check.due("an action that makes nothing different", x.undo(), 0);
        x.issue(0);
        x.ride(0, 0);
        Check.due("a ride that was refused", x.undo(), 1);
        Check.due("refused", x.about(8), 0);
        Check.noSuch("a call that throws", () -> x.ride(1, 0));
        Check.badArgument("a call that throws", () -> x.run(0));
        Check.badArgument("a call that throws", () -> x.issue(100));
        Check.badState("a call that throws", () -> x.up(0));
        Check.due("is no action", x.undo(), 0);
        Check.due("cards", x.about(0), 0);
        x.issue(5);
        x.append('O');
        x.save(0);
        x.would(0, 0);
        x.rides(0, 0);
        x.owes(0);
        x.simulate(1, 3);
        x.runScript(1, 1000);
        Check.due("none of these is an action", x.undo(), 0);
        Check.due("the text is not undone", x.clearText(), 1);
        Check.due("nor is a slot", x.restore(0), 21);
        Check.due("cards", x.about(0), 1);
    }

    private static void undoOfEach() {
        int actions = ACTIONS.length;
        for (int done = 0; done < actions; done++) {
            OfflineGates x = day();
            for (Check.Use action : ACTIONS) {
                action.on(x);
            }
            for (int left = actions - 1; left >= done; left--) {
                Check.due("undo", x.undo(), left);
            }
            OfflineGates y = day();
            for (int i = 0; i < done; i++) {
                ACTIONS[i].on(y);
            }
            Check.same("undo of action " + done, Check.picture(x), Check.picture(y));
        }
    }

    private static OfflineGates day() {
        return Check.day("Oi20c0i30d1r01m05r00r10");
    }

    private static void undoOfLists() {
        OfflineGates x = Check.day("Oi20c0i30r00r10d3");
        String old = Check.picture(x);
        x.up(3);
        x.pay(0, 99);
        x.pardon(0);
        x.down(3);
        Check.due("the list", x.gate(3, 4), 0);
        for (int left = 3; left >= 0; left--) {
            Check.due("undo", x.undo(), left);
        }
        Check.same("the list of a gate that is down", Check.picture(x), old);
        Check.due("that list", x.gate(3, 4), 1);
    }

    private static void undoOfCounts() {
        OfflineGates y = Check.day("Oi20c0r00");
        y.run(5);
        y.ride(0, 0);
        y.undo();
        y.copy(0);
        y.ride(0, 0);
        Check.due("a count that was settled is taken back, too", y.about(5), 0);
        y.ride(2, 0);
        Check.due("and then settled again", y.about(5), 1);
    }
}
