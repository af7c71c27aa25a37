/** Promises 1 to 5: a new object, and the text. */
public final class TextTest {
    public static void main(String[] args) {
        newObject();
        append();
        clearText();
        everyCode();
        errorPosition();
        everyNextSign();
        textsThatEndTooSoon();
        firstOfSeveralErrors();
        longTexts();
        load();
        everyCommandLeftOut();
        Check.end();
    }

    // Promise 1
    private static void newObject() {
        OfflineGates x = new OfflineGates();
        for (int what = 0; what <= 10; what++) {
            Check.due("new about(" + what + ")", x.about(what), 0);
        }
        for (int g = 0; g < 4; g++) {
            Check.due("new fare", x.gate(g, 0), 2);
            Check.due("new line", x.gate(g, 1), 1);
            Check.due("new open", x.gate(g, 2), 0);
            Check.due("new log", x.gate(g, 3), 0);
            Check.due("new list", x.gate(g, 4), 0);
        }
        Check.due("new credit", x.setting(0), 10);
        Check.due("new pause", x.setting(1), 5);
        Check.due("new full log", x.setting(2), 0);
        Check.due("new fine", x.setting(3), 20);
        Check.due("new text", x.clearText(), 0);
        Check.badState("new undo", x::undo);
        Check.badState("new restore", () -> x.restore(0));
        Check.noSuch("new card", () -> x.card(0, 0));
        Check.noSuch("new account", () -> x.account(0, 0));
        Check.due("NONE", OfflineGates.NONE, -1);
    }

    // Promise 2
    private static void append() {
        OfflineGates x = new OfflineGates();
        Check.badArgument("append(-1)", () -> x.append(-1));
        Check.badArgument("append(256)", () -> x.append(256));
        Check.badArgument("append(MIN)", () -> x.append(Integer.MIN_VALUE));
        Check.due("append(0)", x.append(0), 1);
        Check.due("append(255)", x.append(255), 2);
        for (int i = 3; i <= 120; i++) {
            Check.due("append", x.append('O'), i);
        }
        Check.badState("append to 120", () -> x.append('O'));
        Check.badArgument("append(256) to 120", () -> x.append(256));
        Check.due("full text", x.clearText(), 120);
    }

    // Promise 2: "character code, 0 to 255"
    private static void everyCode() {
        for (int c = 0; c <= 255; c++) {
            OfflineGates x = new OfflineGates();
            Check.due("append(" + c + ")", x.append(c), 1);
            Check.due("a day of " + c, x.errorPosition(), c == 'O' ? -1 : 0);
            Check.due("append('O')", x.append('O'), 2);
            Check.due("a text of " + c, x.errorPosition(), c == 'O' ? 1 : 0);
        }
        OfflineGates y = new OfflineGates();
        for (int i = 0; i < 130; i++) {
            if (i < 120) {
                Check.due("append", y.append(i * 2 % 256), i + 1);
            } else {
                Check.badState("append to 120 signs", () -> y.append('O'));
            }
        }
        Check.due("120 signs", y.clearText(), 120);
        Check.due("no sign", y.clearText(), 0);
        for (int i = 1; i <= 120; i++) {
            Check.due("room again", y.append('O'), i);
        }
        Check.badState("append to 120 signs again", () -> y.append('O'));
    }

    // Promise 3
    private static void clearText() {
        OfflineGates x = new OfflineGates();
        Check.due("clearText", x.clearText(), 0);
        Check.write(x, "Od0");
        Check.due("clearText", x.clearText(), 3);
        Check.due("clearText", x.clearText(), 0);
        Check.due("append then", x.append('O'), 1);
        Check.due("a day again", x.errorPosition(), -1);
    }

    // Promise 4
    private static void errorPosition() {
        error("", 0);
        error("o", 0);
        error(" O", 0);
        error("O", -1);
        error("OO", 1);
        error("O ", 1);
        error("Ox", 1);
        error("O5", 1);
        error("Oi", 2);
        error("Oi0", 3);
        error("Oi00", -1);
        error("Oi99", -1);
        error("Oi9a", 3);
        error("Oi/0", 2);
        error("Oi:0", 2);
        error("Oc9", -1);
        error("Oc", 2);
        error("Ocx", 2);
        error("Or93", -1);
        error("Or94", 3);
        error("Or9", 3);
        error("Or", 2);
        error("Or 3", 2);
        error("Ot799", -1);
        error("Ot701", -1);
        error("Ot700", 4);
        error("Ot710", -1);
        error("Ot8", 2);
        error("Ot801", 2);
        error("Ot7", 3);
        error("Ot70", 4);
        error("Ot7x1", 3);
        for (char letter : new char[] {'d', 'u', 'o'}) {
            error("O" + letter, 2);
            error("O" + letter + "3", -1);
            error("O" + letter + "4", 2);
            error("O" + letter + "0" + letter + "9", 4);
        }
        error("Om01", -1);
        error("Om60", -1);
        error("Om00", 3);
        error("Om61", 3);
        error("Om59", -1);
        error("Om10", -1);
        error("Om7", 2);
        error("Om6", 3);
        error("Oi05c0r00t001d0u0o0m05", -1);
        error("Oi05c0r00t001d0u0o0m05p", 22);
        error("Oi05c0 r00", 6);
    }

    private static void error(String text, int want) {
        OfflineGates x = new OfflineGates();
        Check.write(x, text);
        Check.due("errorPosition of '" + text + "'", x.errorPosition(), want);
        Check.due("the text stays", x.clearText(), text.length());
    }

    /** Behind each beginning of a day: all signs that are allowed there. */
    private static final String[][] NEXT = {
        {"", "O"}, {"O", "icrtduom"},
        {"Oi", "0123456789"}, {"Oi0", "0123456789"}, {"Oi5", "0123456789"}, {"Oi9", "0123456789"}, {"Oi00", "icrtduom"},
        {"Oi99", "icrtduom"},
        {"Oc", "0123456789"}, {"Oc0", "icrtduom"}, {"Oc9", "icrtduom"},
        {"Or", "0123456789"}, {"Or0", "0123"}, {"Or9", "0123"}, {"Or00", "icrtduom"}, {"Or93", "icrtduom"},
        {"Ot", "01234567"}, {"Ot0", "0123456789"}, {"Ot7", "0123456789"}, {"Ot00", "123456789"}, {"Ot70", "123456789"},
        {"Ot01", "0123456789"}, {"Ot79", "0123456789"}, {"Ot001", "icrtduom"}, {"Ot799", "icrtduom"},
        {"Od", "0123"}, {"Ou", "0123"}, {"Oo", "0123"}, {"Od0", "icrtduom"}, {"Ou3", "icrtduom"}, {"Oo3", "icrtduom"},
        {"Om", "0123456"}, {"Om0", "123456789"}, {"Om1", "0123456789"}, {"Om5", "0123456789"}, {"Om6", "0"},
        {"Om01", "icrtduom"}, {"Om60", "icrtduom"},
        {"Oi12c3r43t799d0u1o2m60", "icrtduom"}, {"Oi12c3r43t799d0u1o2m6", "0"}, {"Om60t0", "0123456789"}, {"Ot001r9", "0123"}};

    // Promise 4: "the index of the first character that these rules do not allow at its place (a digit is not allowed if
    // no number that is allowed begins with it and those before it)"
    private static void everyNextSign() {
        for (String[] k : NEXT) {
            int length = k[0].length();
            OfflineGates x = new OfflineGates();
            for (int c = 0; c <= 255; c++) {
                x.clearText();
                if (c % 10 == 0) {
                    x = new OfflineGates();
                }
                Check.write(x, k[0]);
                x.append(c);
                int got = x.errorPosition();
                Check.isTrue("'" + k[0] + "' and the sign " + c + ": " + got, (got == length) == (k[1].indexOf(c) < 0));
            }
        }
    }

    // Promise 4: "if the text ends too soon, it is the length of the text"
    private static void textsThatEndTooSoon() {
        String day = "Oi12c3r43t799d0u1o2m60";
        boolean[] whole = new boolean[day.length() + 1];
        for (int end : new int[] {1, 4, 6, 9, 13, 15, 17, 19, 22}) {
            whole[end] = true;
        }
        for (int n = 0; n <= day.length(); n++) {
            error(day.substring(0, n), whole[n] ? -1 : n);
        }
    }

    private static void firstOfSeveralErrors() {
        error("xx", 0);
        error("xO", 0);
        error("OOO", 1);
        error("Oxi", 1);
        error("Om77", 2);
        error("Om007", 3);
        error("Om61m61", 3);
        error("Or44", 3);
        error("Or9", 3);
        error("Ot8000", 2);
        error("Od0d4d4", 4);
        error("Oi0 0", 3);
    }

    // "The object has a text buffer of at most 120 characters."
    private static void longTexts() {
        String rides = "Oi00" + "r00".repeat(38);
        error(rides + "d0", -1);
        error(rides + "d4", 119);
        error(rides + "dx", 119);
        error(rides + "r0", 120);
        error(rides + "0d", 118);
        error(rides + "d", 119);
        error("O" + "u0".repeat(59) + "u", 120);
        error("O" + "u0".repeat(59) + "O", 119);
        error("O" + "t001".repeat(29) + "t00", 120);
        OfflineGates x = Check.day(rides + "d0");
        Check.due("38 rides that were refused", x.about(8), 38);
        Check.due("the last command", x.gate(0, 1), 0);
        OfflineGates y = Check.day("Oi99" + "t099".repeat(29));
        Check.due("29 payments", y.account(0, 0), 30 * 99);
        OfflineGates z = new OfflineGates();
        Check.write(z, "O" + "u0".repeat(59));
        Check.due("59 are left out", z.load(), 59);
    }

    // Promise 5
    private static void load() {
        OfflineGates x = new OfflineGates();
        x.issue(7);
        Check.badState("load without a text", x::load);
        Check.write(x, "Om6");
        Check.badState("load of no day", x::load);
        Check.due("nothing changed", x.about(0), 1);
        Check.due("undo is kept", x.undo(), 0);
        x.clearText();

        x.issue(7);
        x.copy(0);
        x.ride(0, 3);
        x.ride(1, 3);
        x.pay(0, 9);
        x.down(0);
        x.set(0, 1);
        x.set(1, 2);
        x.set(2, 1);
        x.set(3, 3);
        x.fare(3, 9);
        x.open(2);
        x.ride(0, 2);
        x.down(1);
        x.ride(0, 1);
        x.run(60);
        x.save(0);
        x.save(1);
        Check.write(x, "O");
        Check.due("load O", x.load(), 0);
        Check.same("as a new object", Check.picture(x), Check.picture(new OfflineGates()));
        Check.badState("undo behind load", x::undo);
        Check.badState("slot 0 behind load", () -> x.restore(0));
        Check.badState("slot 1 behind load", () -> x.restore(1));
        Check.due("the text is kept", x.clearText(), 1);

        commands();
        leftOut();
        settledAgain();
    }

    private static void commands() {
        OfflineGates x = new OfflineGates();
        Check.write(x, "Oi12i34c0r00d1m06r11o2r22t205t105u1m60");
        Check.due("left out", x.load(), 1);
        Check.badState("undo behind load", x::undo);
        OfflineGates y = new OfflineGates();
        y.issue(12);
        y.issue(34);
        y.copy(0);
        y.ride(0, 0);
        y.down(1);
        y.run(6);
        y.ride(1, 1);
        y.open(2);
        y.ride(2, 2);
        y.pay(1, 5);
        y.up(1);
        y.run(60);
        Check.same("the same day by calls", Check.picture(x), Check.picture(y));
    }

    private static void leftOut() {
        OfflineGates x = new OfflineGates();
        Check.write(x, "Oc0r00t001u0d0d0u0");
        Check.due("copy, ride, pay, up, down left out", x.load(), 5);
        x.clearText();
        Check.write(x, "Oi01i01i01i01i01i01i01i01i01c0c9c0c0");
        Check.due("9th account, card 9 before it is there, 11th card", x.load(), 3);
        Check.due("cards", x.about(0), 10);
        Check.due("accounts", x.about(1), 8);
        x.clearText();
        Check.write(x, "Oi00r00r00");
        Check.due("refused rides are not left out", x.load(), 0);
        Check.due("refused", x.about(8), 2);
        Check.due("load again", x.load(), 0);
        Check.due("refused again", x.about(8), 2);
    }

    private static void settledAgain() {
        OfflineGates x = Check.day("Oi50r00m05r00");
        Check.due("settled", x.about(3), 2);
        x.load();
        Check.due("no doubles behind another load", x.about(5), 0);
        Check.due("settled", x.account(0, 2), 2);
        OfflineGates y = Check.day("Oi05c0r00r10t033m09d0");
        Check.due("marked", y.account(0, 3), 1);
        y.clearText();
        Check.write(y, "Oi99");
        y.load();
        int[] due = {99, 0, 0, 0, 0, 1, 0, 0};
        for (int what = 0; what <= 7; what++) {
            Check.due("a new account, " + what, y.account(0, what), due[what]);
        }
        Check.due("all the money", y.card(0, 1), 99);
        OfflineGates z = Check.day("Oi99d0r00");
        z.clearText();
        Check.write(z, "Od0");
        z.load();
        Check.due("an empty log", z.gate(0, 3), 0);
        Check.due("no rides in logs", z.about(6), 0);
    }

    // Promise 5: "the number of commands that are left out"
    private static void everyCommandLeftOut() {
        String[][] cases = {
            {"O", "0"}, {"Oi00", "0"}, {"Oi99", "0"},
            {"Oc0", "1"}, {"Oi00c0", "0"}, {"Oi00c1", "1"}, {"Oi00c0c1c2", "0"}, {"Oc9i00c0", "1"},
            {"Oi00c0c0c0c0c0c0c0c0c0", "0"}, {"Oi00c0c0c0c0c0c0c0c0c0c0", "1"}, {"Oi00c0c0c0c0c0c0c0c0c0i00", "1"},
            {"Oi00i00i00i00i00i00i00i00", "0"}, {"Oi00i00i00i00i00i00i00i00i00", "1"}, {"Oi00i00i00i00i00i00i00i00c0c0", "0"},
            {"Oi00i00i00i00i00i00i00i00c0c0c0", "1"}, {"Oi00i00i00i00i00i00i00c0c0c0i00", "1"}, {"Oi00i00i00i00i00i00i00c0c0i00", "0"},
            {"Or00", "1"}, {"Oi00r00", "0"}, {"Oi00r03", "0"}, {"Oi00r10", "1"}, {"Oi00c0r10", "0"}, {"Oi00r90", "1"},
            {"Ot001", "1"}, {"Oi00t001", "0"}, {"Oi00t099", "0"}, {"Oi00t101", "1"}, {"Oi00c0t101", "1"},
            {"Oi00i00i00i00i00i00i00t701", "1"}, {"Oi00i00i00i00i00i00i00i00t701", "0"},
            {"Od0", "0"}, {"Od0d0", "1"}, {"Od0d3", "0"}, {"Od0u0d0", "0"}, {"Ou0", "1"}, {"Ou3", "1"}, {"Od3u3", "0"},
            {"Od3u3u3", "1"}, {"Oo0", "0"}, {"Oo0o0o0", "0"}, {"Oo3", "0"}, {"Om01", "0"}, {"Om60m60", "0"},
            {"Oi05r00r00m04r00m01r00r00", "0"}, {"Oi00c1c1c1u1u2t999", null}};
        for (String[] k : cases) {
            OfflineGates x = new OfflineGates();
            Check.write(x, k[0]);
            if (k[1] == null) {
                Check.badState("load of " + k[0], x::load);
            } else {
                Check.due("load of " + k[0], x.load(), Integer.parseInt(k[1]));
                Check.due("the same again", x.load(), Integer.parseInt(k[1]));
                Check.due("the text is kept", x.clearText(), k[0].length());
            }
        }
        OfflineGates y = Check.day("Oi10c1t101u0d0d0r10m05");
        OfflineGates z = Check.day("Oi10d0m05");
        Check.same("what is left out changes nothing", Check.picture(y), Check.picture(z));
    }
}
