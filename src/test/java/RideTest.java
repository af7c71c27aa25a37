/** The sentences of the sections "A RIDE" and "SETTLING" of the document, each with its boundaries (promises 14, 18, 24). */
public final class RideTest {
    public static void main(String[] args) {
        openGate();
        waitingMoneyMoves();
        waitingMoneyStays();
        waitingMoneyIsOfTheAccount();
        listOfTheOffice();
        listOfALineThatIsDown();
        pauses();
        noRideYet();
        whatIsALatestRide();
        moneyWhileUp();
        moneyWhileDown();
        fullLog();
        fullLogOpened();
        fourFullLogs();
        orderOfRefusals();
        whatIsWritten();
        doublesAtOnce();
        noDoubles();
        doublesOfEachAccount();
        fines();
        orderOfSettling();
        countsOfDoubles();
        emptyLog();
        Check.end();
    }

    /** Both would() and ride() tell what it comes to. */
    private static void shown(String what, OfflineGates x, int c, int g, int due) {
        Check.due("would(" + c + ", " + g + "), " + what, x.would(c, g), due);
        Check.due("ride(" + c + ", " + g + "), " + what, x.ride(c, g), due);
    }

    private static void card(String what, OfflineGates x, int c, int... due) {
        for (int w = 0; w < due.length; w++) {
            Check.due("card(" + c + ", " + w + "), " + what, x.card(c, w), due[w]);
        }
    }

    private static void account(String what, OfflineGates x, int a, int... due) {
        for (int w = 0; w < due.length; w++) {
            Check.due("account(" + a + ", " + w + "), " + what, x.account(a, w), due[w]);
        }
    }

    private static void totals(String what, OfflineGates x, int settled, int doubles, int inLogs, int refused, int unwritten) {
        Check.due("settled, " + what, x.about(3), settled);
        Check.due("doubles, " + what, x.about(5), doubles);
        Check.due("in logs, " + what, x.about(6), inLogs);
        Check.due("refused, " + what, x.about(8), refused);
        Check.due("unwritten, " + what, x.about(9), unwritten);
    }

    /** So many rides of a card at a gate, without a pause; the setting is put back to 5. */
    private static void many(OfflineGates x, int n, int c, int g) {
        x.set(1, 0);
        for (int i = 0; i < n; i++) {
            x.ride(c, g);
        }
        x.set(1, 5);
    }

    // "If the gate stands open, the card is let through (2), and nothing is written."
    private static void openGate() {
        OfflineGates x = Check.day("Oi02c0r00r10t005");
        Check.due("opens", x.open(0), 1);
        shown("on the list, too soon, no money", x, 0, 0, 2);
        shown("again", x, 1, 0, 2);
        card("open", x, 0, 0, 0, 1, 0);
        account("what waits stays", x, 0, -15, 5, 1, 1, 1, 2, 0, 0);
        totals("open", x, 1, 1, 0, 0, 2);
        Check.due("shuts", x.open(0), 0);
        shown("shut", x, 0, 0, 3);
        OfflineGates y = Check.day("Oi00d3o3");
        y.set(0, 0);
        shown("open and down", y, 0, 3, 2);
        card("open and down", y, 0, 0, 0, 0, -1);
        Check.due("its log", y.gate(3, 3), 0);
        y.open(3);
        shown("shut and down", y, 0, 3, 5);
    }

    // "what waits [..] is added to the money on the card, and waits no more (also if the ride is refused then)"
    private static void waitingMoneyMoves() {
        OfflineGates x = Check.day("Oi09t007");
        shown("let through", x, 0, 0, 0);
        card("let through", x, 0, 0, 14);
        account("let through", x, 0, 14, 0);
        x.pay(0, 1);
        shown("too soon", x, 0, 0, 4);
        card("too soon", x, 0, 0, 15);
        account("too soon", x, 0, 15, 0);
        OfflineGates y = Check.day("Oi00");
        y.fare(0, 9);
        y.pay(0, 8);
        shown("8 for 9", y, 0, 0, 5);
        card("8 for 9", y, 0, 0, 8, 0, -1);
        account("8 for 9", y, 0, 8, 0);
        y.pay(0, 1);
        shown("9 for 9", y, 0, 0, 0);
        card("9 for 9", y, 0, 0, 0, 1, 0);
        account("9 for 9", y, 0, 0, 0);
        OfflineGates z = Check.day("Oi09c0r00r10t003");
        shown("blocked", z, 0, 0, 3);
        card("blocked", z, 0, 0, 10, 1, 0);
        account("blocked", z, 0, -10, 0);
    }

    // "if the line is up": while it is down, or the gate open, what waits goes on waiting
    private static void waitingMoneyStays() {
        OfflineGates x = Check.day("Oi09d1t004o2");
        shown("logged", x, 0, 1, 1);
        shown("too soon", x, 0, 1, 4);
        shown("open", x, 0, 2, 2);
        x.set(0, 0);
        x.fare(1, 8);
        x.run(5);
        shown("no money", x, 0, 1, 5);
        card("line down", x, 0, 0, 7);
        account("line down", x, 0, 13, 4);
        many(x, 3, 0, 1);
        x.fare(1, 1);
        many(x, 7, 0, 1);
        x.set(0, 50);
        many(x, 4, 0, 1);
        x.set(1, 0);
        shown("full log", x, 0, 1, 6);
        x.set(2, 1);
        shown("full log", x, 0, 1, 7);
        Check.due("the log", x.gate(1, 3), 12);
        card("12 logged", x, 0, 0, 9 - 2 - 11, 12);
        account("12 logged", x, 0, 13, 4);
        OfflineGates y = Check.day("Oi09c0r00r10d1t005");
        shown("on the list", y, 0, 1, 3);
        card("on the list", y, 0, 0, 7);
        account("on the list", y, 0, -8, 5);
        y.up(1);
        account("a line that comes up moves no money to cards", y, 0, -8, 5);
    }

    // "what waits for the account of the card": of no other account, and to no other card
    private static void waitingMoneyIsOfTheAccount() {
        OfflineGates x = Check.day("Oi10i20c1t004t106t101");
        shown("the copy", x, 2, 3, 0);
        card("the copy gets all of it", x, 2, 1, 25);
        card("the first card gets none", x, 1, 1, 20);
        card("another account gets none", x, 0, 0, 10);
        account("of another account", x, 0, 14, 4);
        account("of the account", x, 1, 25, 0);
        shown("a double", x, 1, 3, 0);
        card("nothing is left to get", x, 1, 1, 18);
    }

    // "If the account is on the list of the gate, the ride is refused (3)." "While the line is up, the list is that of
    // the accounts that are blocked at the office". "An account is blocked if its balance is less than 0, or it is marked."
    private static void listOfTheOffice() {
        OfflineGates x = Check.day("Oi04i03d0r00r10u0");
        account("balance 2", x, 0, 2, 0, 1, 0, 0);
        x.set(1, 0);
        x.fare(0, 1);
        x.ride(0, 0);
        x.ride(0, 0);
        account("balance 0 is not blocked", x, 0, 0, 0, 3, 0, 0);
        x.pay(0, 1);
        shown("balance 1", x, 0, 0, 0);
        shown("balance 0, but no money", x, 0, 0, 5);
        x.down(1);
        x.fare(1, 1);
        x.ride(0, 1);
        x.up(1);
        account("balance -1 is blocked", x, 0, -1, 0, 5, 0, 1);
        Check.due("the list", x.gate(0, 4), 1);
        shown("balance -1", x, 0, 0, 3);
        shown("another account", x, 1, 0, 0);
        x.pay(0, 1);
        Check.due("the list goes along", x.gate(0, 4), 0);
        shown("balance 0 again", x, 0, 0, 5);
        OfflineGates y = Check.day("Oi90c0r00r10");
        account("marked, with money", y, 0, 68, 0, 1, 1, 1);
        shown("marked", y, 0, 2, 3);
        Check.due("pardon", y.pardon(0), 68);
        shown("no mark", y, 0, 2, 4);
    }

    // "when it goes down, the list stays as it is then"
    private static void listOfALineThatIsDown() {
        OfflineGates x = Check.day("Oi90c0i50d1r00r10d2");
        x.set(1, 0);
        Check.due("blocked", x.about(10), 1);
        Check.due("the older list", x.gate(1, 4), 0);
        Check.due("the newer list", x.gate(2, 4), 1);
        Check.due("the list while up", x.gate(3, 4), 1);
        shown("older list", x, 0, 1, 1);
        shown("newer list", x, 0, 2, 3);
        shown("newer list, another account", x, 2, 2, 1);
        x.pardon(0);
        shown("pardoned, but on the list", x, 0, 2, 3);
        shown("pardoned, line up", x, 0, 3, 0);
        Check.due("the newer list stays", x.gate(2, 4), 1);
        x.up(2);
        Check.due("the list of now", x.gate(2, 4), 0);
        shown("no list any more", x, 0, 2, 0);
        OfflineGates y = Check.day("Oi00i00i00i00i00i00i00i00d0r70u0d1");
        Check.due("the list of account 7", y.gate(1, 4), 128);
        shown("the last account", y, 7, 1, 3);
        shown("the one before", y, 6, 1, 1);
        shown("the first account", y, 0, 1, 1);
    }

    // "If the latest ride of the card was less than setting 1 minutes ago, it is refused (4)."
    private static void pauses() {
        for (int pause : new int[] {0, 1, 2, 5, 29, 30}) {
            for (int first = 0; first <= 1; first++) {
                OfflineGates x = Check.day(first == 0 ? "Oi99d1" : "Oi99d1m07");
                x.set(1, pause);
                shown("first", x, 0, 0, 0);
                String what = "pause " + pause;
                if (pause > 1) {
                    x.run(pause - 1);
                }
                if (pause > 0) {
                    shown(what + ", a minute too soon", x, 0, 0, 4);
                    shown(what + ", a minute too soon, line down", x, 0, 1, 4);
                    x.run(1);
                }
                Check.due("would, " + what + ", line down", x.would(0, 1), 1);
                shown(what, x, 0, 0, 0);
            }
        }
        OfflineGates y = Check.day("Oi99r00m06");
        y.set(1, 7);
        shown("a longer pause counts at once", y, 0, 0, 4);
        y.set(1, 6);
        shown("a shorter one, too", y, 0, 0, 0);
    }

    // "and the minute of its latest ride, if there was one"
    private static void noRideYet() {
        OfflineGates x = Check.day("Oi50i50d1");
        x.set(1, 30);
        card("no ride yet", x, 0, 0, 50, 0, -1);
        shown("the minute 0 is not too soon", x, 0, 0, 0);
        card("a ride in the minute 0", x, 0, 0, 48, 1, 0);
        shown("line down", x, 1, 1, 1);
        x.run(29);
        shown("29 minutes behind the minute 0", x, 0, 0, 4);
        x.run(1);
        shown("30 minutes behind it", x, 0, 0, 0);
    }

    /** Only a ride that is written is a latest ride; one of a copy is none of the card. */
    private static void whatIsALatestRide() {
        OfflineGates x = Check.day("Oi03c0o3");
        shown("open", x, 0, 3, 2);
        shown("no pause behind an open gate", x, 0, 0, 0);
        shown("no pause behind a ride of the copy", x, 1, 0, 0);
        OfflineGates y = Check.day("Oi20m09r00c0m01");
        shown("a copy has the latest ride, too", y, 1, 0, 4);
        y.run(4);
        shown("5 minutes behind it", y, 1, 1, 0);
        y.run(4);
        shown("4 minutes behind the next one", y, 1, 2, 4);
        card("the latest ride was let through", y, 1, 0, 16, 2, 14);
        y.run(1);
        shown("no pause behind a refused ride", y, 1, 2, 0);
    }

    // "If the line is up, and the money on the card is less than the fare [..], it is refused (5)."
    private static void moneyWhileUp() {
        for (int fare : new int[] {1, 2, 9}) {
            for (int money = fare - 1; money <= fare + 1; money++) {
                OfflineGates x = new OfflineGates();
                x.set(0, 50);
                x.issue(money);
                x.fare(2, fare);
                shown(money + " for " + fare, x, 0, 2, money < fare ? 5 : 0);
                card(money + " for " + fare, x, 0, 0, money < fare ? money : money - fare);
                account(money + " for " + fare, x, 0, money < fare ? money : money - fare);
            }
        }
        OfflineGates y = Check.day("Oi01d1r01m05t009");
        y.fare(0, 9);
        card("money below 0", y, 0, 0, -1);
        shown("-1 and 9 for 9", y, 0, 0, 5);
        y.pay(0, 1);
        shown("-1 and 9 and 1 for 9", y, 0, 0, 0);
    }

    // "or the line is down, and it would be less than 0 by more than setting 0 behind the ride"
    private static void moneyWhileDown() {
        int[][] cases = {{0, 0, 0}, {0, 1, 1}, {1, 0, 1}, {10, 0, 10}, {10, 3, 13}, {49, 1, 50}, {50, 0, 50}, {50, 4, 54}};
        for (int[] k : cases) {
            OfflineGates x = new OfflineGates();
            x.set(0, k[0]);
            x.issue(k[1]);
            x.down(3);
            String what = "credit " + k[0] + ", money " + k[1];
            x.fare(3, 6);
            int sixes = k[2] / 6;
            many(x, sixes, 0, 3);
            x.set(1, 0);
            card(what, x, 0, 0, k[1] - 6 * sixes);
            shown(what + ", a fare of 6 too many", x, 0, 3, 5);
            int rest = k[2] - 6 * sixes;
            if (rest > 0) {
                x.fare(3, rest + 1);
                shown(what + ", 1 too much", x, 0, 3, 5);
                x.fare(3, rest);
                shown(what + ", just the credit", x, 0, 3, 1);
            }
            card(what + ", behind all rides", x, 0, 0, -k[0]);
            x.fare(3, 1);
            shown(what + ", no credit left", x, 0, 3, 5);
            if (k[0] < 50) {
                x.set(0, k[0] + 1);
                shown(what + ", a credit of 1 more", x, 0, 3, 1);
            }
        }
    }

    // "If the line is down, and the log is full, it is refused (6), or, with setting 2 as 1, the card is let through (7),
    // and nothing is written." "it has a log of at most 12 rides"
    private static void fullLog() {
        OfflineGates x = Check.day("Oi50i50d1d2t009");
        many(x, 11, 0, 1);
        Check.due("11 rides", x.gate(1, 3), 11);
        x.set(1, 0);
        x.set(2, 1);
        shown("the 12th is written, with setting 2 as 1, too", x, 0, 1, 1);
        x.set(2, 0);
        String before = Check.picture(x);
        Check.due("12 rides", x.gate(1, 3), 12);
        shown("the 13th", x, 0, 1, 6);
        shown("another card", x, 1, 1, 6);
        totals("refused", x, 0, 0, 12, 2, 0);
        card("refused", x, 0, 0, 50 - 24, 12, 0);
        card("refused", x, 1, 1, 50, 0, -1);
        x.undo();
        x.undo();
        Check.same("nothing else was changed", Check.picture(x), before);
        x.set(2, 1);
        x.run(9);
        shown("the 13th, let through", x, 0, 1, 7);
        shown("another card", x, 1, 1, 7);
        card("nothing is written", x, 0, 0, 50 - 24, 12, 0);
        card("nothing is written", x, 1, 1, 50, 0, -1);
        account("nothing is written", x, 0, 59, 9, 0, 0, 0, 1, 12, 24);
        totals("unwritten", x, 0, 0, 12, 0, 2);
        x.set(1, 30);
        shown("no pause for a card without a written ride", x, 1, 1, 7);
        x.set(2, 0);
        shown("another log has room", x, 1, 2, 1);
        x.set(1, 0);
        shown("refused again", x, 0, 1, 6);
    }

    /** A line that comes up empties the log; a line that is up needs none. */
    private static void fullLogOpened() {
        OfflineGates x = Check.day("Oi99d1");
        many(x, 12, 0, 1);
        x.set(1, 0);
        Check.due("up", x.up(1), 0);
        for (int i = 0; i < 13; i++) {
            Check.due("a ride at a line that is up", x.ride(0, 1), 0);
        }
        x.down(1);
        for (int i = 1; i <= 12; i++) {
            Check.due("a new log", x.ride(0, 1), 1);
            Check.due("a new log", x.logged(1, i - 1, 1), 25 + i);
        }
        shown("full again", x, 0, 1, 6);
    }

    /** The logs of the gates do not touch one another. */
    private static void fourFullLogs() {
        OfflineGates x = Check.day("Oi99d0d1d2d3");
        x.set(1, 0);
        x.set(0, 50);
        for (int i = 0; i < 48; i++) {
            int g = i * 3 % 4;
            x.fare(g, 1 + i % 5);
            Check.due("ride " + i, x.ride(0, g), 1);
        }
        int[] fares = new int[4];
        for (int i = 0; i < 48; i++) {
            int g = i * 3 % 4;
            Check.due("account of ride " + i, x.logged(g, i / 4, 0), 0);
            Check.due("count of ride " + i, x.logged(g, i / 4, 1), i + 1);
            Check.due("fare of ride " + i, x.logged(g, i / 4, 2), 1 + i % 5);
            fares[g] += 1 + i % 5;
        }
        int all = fares[0] + fares[1] + fares[2] + fares[3];
        Check.due("all rides", x.about(6), 48);
        Check.due("all fares", x.about(7), all);
        Check.due("its rides", x.account(0, 6), 48);
        Check.due("its fares", x.account(0, 7), all);
        Check.due("owes", x.owes(0), all - 99);
        for (int g = 0; g < 4; g++) {
            Check.due("full", x.would(0, g), 6);
            Check.due("fares of the log", x.ifUp(g, 3), fares[g]);
            Check.due("up", x.up(g), 0);
        }
        account("all settled", x, 0, 99 - all, 0, 48, 0, 1, 1, 0, 0);
    }

    // "it is looked at in this order"
    private static void orderOfRefusals() {
        OfflineGates x = Check.day("Oi02c0r00r10d1");
        shown("list ahead of pause and money", x, 0, 0, 3);
        shown("list ahead of pause and money, line down", x, 0, 1, 3);
        OfflineGates y = Check.day("Oi02d1r00");
        y.set(0, 0);
        shown("pause ahead of money", y, 0, 0, 4);
        shown("pause ahead of money, line down", y, 0, 1, 4);
        for (int full = 0; full <= 1; full++) {
            OfflineGates z = Check.day("Oi24i99d1");
            z.set(0, 0);
            z.set(2, full);
            many(z, 12, 0, 1);
            shown("pause ahead of money and a full log", z, 0, 1, 4);
            z.run(5);
            shown("money ahead of a full log", z, 0, 1, 5);
            shown("a full log alone", z, 1, 1, 6 + full);
            z.up(1);
            z.down(1);
            z.set(0, 50);
            many(z, 12, 0, 1);
            z.run(5);
            z.up(1);
            z.down(1);
            Check.due("below 0", z.gate(1, 4), 1);
            many(z, 12, 1, 1);
            z.run(5);
            shown("list ahead of a full log", z, 0, 1, 3);
            shown("a full log alone", z, 1, 1, 6 + full);
        }
    }

    // "the money on it becomes less by the fare, its count of rides 1 greater, and its latest ride is now; the ride is
    // told by the account, this count and the fare: if the line is up, it is settled (0); otherwise it is the last one"
    private static void whatIsWritten() {
        OfflineGates x = Check.day("Oi20i30d1m03");
        x.fare(1, 7);
        shown("logged", x, 1, 1, 1);
        card("logged", x, 1, 1, 23, 1, 3);
        account("logged", x, 1, 30, 0, 0, 0, 0, 1, 1, 7);
        x.fare(1, 4);
        shown("logged", x, 0, 1, 1);
        x.run(5);
        shown("logged", x, 1, 1, 1);
        int[][] due = {{1, 1, 7}, {0, 1, 4}, {1, 2, 4}};
        for (int k = 0; k < 3; k++) {
            for (int w = 0; w <= 2; w++) {
                Check.due("logged(1, " + k + ", " + w + ")", x.logged(1, k, w), due[k][w]);
            }
        }
        totals("in the log", x, 0, 0, 3, 0, 0);
        x.run(5);
        shown("settled at once", x, 1, 2, 0);
        card("settled at once", x, 1, 1, 17, 3, 13);
        account("settled at once", x, 1, 28, 0, 1, 0, 0, 1, 2, 11);
        totals("settled at once", x, 1, 0, 3, 0, 0);
        Check.due("fares settled", x.about(4), 2);
    }

    // "If a ride with this count was settled for the account before, it is a double (also if it is settled at once;
    // ride() returns 0 then, too): the balance of the account becomes less by setting 3, and it is marked."
    private static void doublesAtOnce() {
        OfflineGates x = Check.day("Oi50c0c0m02r03");
        shown("a double", x, 1, 3, 0);
        card("the card pays, and has a ride more", x, 1, 0, 48, 1, 2);
        account("the fine, and no fare", x, 0, 28, 0, 1, 1, 1);
        totals("a double", x, 1, 1, 0, 0, 0);
        Check.due("its fare is none of the fares", x.about(4), 2);
        x.pardon(0);
        shown("another double of the same count", x, 2, 0, 0);
        account("two fines", x, 0, 8, 0, 1, 1, 1);
        totals("two doubles", x, 1, 2, 0, 0, 0);
    }

    // "Otherwise the count is settled, and the balance becomes less by the fare."
    private static void noDoubles() {
        OfflineGates x = Check.day("Oi50i50r00r10");
        account("the same count of another account", x, 1, 48, 0, 1, 0, 0);
        x.down(1);
        x.run(5);
        x.ride(0, 1);
        x.run(5);
        shown("count 3 ahead of count 2", x, 0, 0, 0);
        Check.due("count 2 is no double", x.up(1), 0);
        account("counts 1 to 3", x, 0, 44, 0, 3, 0, 0);
        x.copy(0);
        x.run(5);
        shown("count 4", x, 2, 0, 0);
        shown("count 4 again", x, 0, 0, 0);
        account("now it is one", x, 0, 42 - 20, 0, 4, 1, 1);
        OfflineGates y = Check.day("Oi50c0d1d2");
        y.ride(0, 1);
        y.ride(1, 2);
        totals("two rides with one count in logs", y, 0, 0, 2, 0, 0);
        account("no double before they are settled", y, 0, 50, 0, 0, 0, 0, 2, 2, 4);
        Check.due("the first one", y.up(2), 0);
        Check.due("the second one", y.up(1), 1);
        account("settled", y, 0, 50 - 2 - 20, 0, 1, 1, 1, 2, 0, 0);
    }

    /** Each of eight accounts has counts of its own. */
    private static void doublesOfEachAccount() {
        for (int a = 0; a < 8; a++) {
            OfflineGates x = Check.day("Oi30i30i30i30i30i30i30i30c" + a + "d2");
            x.set(1, 0);
            for (int c = 0; c < 8; c++) {
                shown("count 1", x, c, 3, 0);
                shown("count 2", x, c, 3, 0);
            }
            totals("16 counts", x, 16, 0, 0, 0, 0);
            shown("count 1 again, logged", x, 8, 2, 1);
            shown("count 2 again", x, 8, 3, 0);
            totals("a double of account " + a, x, 16, 1, 1, 0, 0);
            Check.due("blocked", x.about(10), 1 << a);
            Check.due("a double comes up", x.up(2), 1);
            for (int other = 0; other < 8; other++) {
                account("settled", x, other, other == a ? 30 - 4 - 2 * 20 : 26, 0, 2, other == a ? 1 : 0);
            }
        }
    }

    // "3: the fine for a double, 0 to 99"
    private static void fines() {
        for (int fine : new int[] {0, 1, 48, 49, 99}) {
            OfflineGates x = Check.day("Oi50c0r00");
            x.set(3, fine);
            shown("a double", x, 1, 0, 0);
            account("fine " + fine, x, 0, 48 - fine, 0, 1, 1, 1);
            Check.due("pardon tells the balance", x.pardon(0), 48 - fine);
            Check.due("blocked below 0 alone", x.account(0, 4), fine > 48 ? 1 : 0);
        }
        OfflineGates y = Check.day("Oi50c0r00d1r11");
        y.set(3, 3);
        Check.due("a double", y.up(1), 1);
        account("the fine that is set when it is settled", y, 0, 45, 0, 1, 1, 1);
        y.set(3, 30);
        account("which stays", y, 0, 45);
    }

    // "When a line comes up, the rides in the log are settled, one after the other, the first one first, and the log is
    // empty."
    private static void orderOfSettling() {
        for (int first = 0; first <= 1; first++) {
            OfflineGates x = Check.day("Oi50c0d1");
            x.fare(1, 9);
            x.ride(first, 1);
            x.fare(1, 1);
            x.ride(1 - first, 1);
            x.fare(1, 5);
            Check.due("a double within a log", x.up(1), 1);
            account("the first one has its fare, the second the fine", x, 0, 50 - 9 - 20, 0, 1, 1, 1, 2, 0, 0);
            Check.due("fares", x.about(4), 9);
            Check.due("the log", x.gate(1, 3), 0);
            Check.due("the line", x.gate(1, 1), 1);
        }
    }

    // promise 18: "how many of the rides in its log were doubles"
    private static void countsOfDoubles() {
        for (int fresh = 0; fresh <= 12; fresh += 4) {
            OfflineGates x = Check.day("Oi99c0d1");
            x.set(0, 50);
            x.set(3, 2);
            x.fare(0, 1);
            many(x, 12 - fresh, 0, 0);
            many(x, 12, 1, 1);
            String what = 12 - fresh + " of 12";
            Check.due("doubles, " + what, x.up(1), 12 - fresh);
            account(what, x, 0, 99 - (12 - fresh) - 2 * fresh - 2 * (12 - fresh), 0, 12, fresh < 12 ? 1 : 0, fresh < 12 ? 1 : 0);
            totals(what, x, 12, 12 - fresh, 0, 0, 0);
        }
    }

    private static void emptyLog() {
        OfflineGates x = Check.day("Oi50c0r00r10d0d3");
        String before = Check.picture(x);
        Check.due("up with an empty log", x.up(3), 0);
        Check.due("down", x.down(3), 1);
        Check.same("nothing was settled", Check.picture(x), before);
    }
}
