/**
 * Every sentence that begins with "Throws", and every range of an argument: the last value that is allowed and the
 * first one that is not, on both sides; the exception that is named first; and that a call that throws changes nothing.
 */
public final class RefusedTest {
    private static final Class<IndexOutOfBoundsException> NO_SUCH = IndexOutOfBoundsException.class;
    private static final Class<IllegalArgumentException> BAD = IllegalArgumentException.class;
    private static final Class<IllegalStateException> NOT_NOW = IllegalStateException.class;

    private interface Ask {
        long on(OfflineGates x, int v);
    }

    public static void main(String[] args) {
        rangesOfLooks();
        rangesOfActions();
        rangesOfWouldBe();
        rangesOfScripts();
        textStates();
        roomStates();
        markStates();
        lineStates();
        undoStates();
        slotStates();
        firstNamedFirst();
        Check.end();
    }

    /**
     * Three accounts, of which 0 is marked; four cards; gate 1 has two rides in its log, gate 2 a full one, gate 3 stands
     * open; three states are remembered, slot 1 is filled, the text is no day.
     */
    private static OfflineGates busy() {
        OfflineGates x = Check.day("Oi40i30i09c0d1r00r11r30d2");
        x.set(1, 0);
        x.ride(2, 1);
        for (int i = 0; i < 12; i++) {
            x.ride(1, 2);
        }
        x.save(1);
        x.restore(1);
        x.run(1);
        x.open(3);
        x.pay(1, 5);
        x.clearText();
        Check.write(x, "Oi4");
        return x;
    }

    private static void refused(String what, Class<? extends RuntimeException> want, Check.Use use) {
        Check.refused(what, want, RefusedTest::busy, use);
    }

    private static void outside(String what, Class<? extends RuntimeException> want, int least, int most, Ask ask) {
        for (int v : new int[] {least - 1, most + 1, Integer.MIN_VALUE, Integer.MAX_VALUE}) {
            refused(what + " with " + v, want, x -> ask.on(x, v));
        }
    }

    private static void range(String what, Class<? extends RuntimeException> want, int least, int most, Ask ask) {
        outside(what, want, least, most, ask);
        for (int v : new int[] {least, most}) {
            Check.answers(what + " with " + v, () -> ask.on(busy(), v));
        }
    }

    // Promises 2 and 6 to 11
    private static void rangesOfLooks() {
        range("append(c)", BAD, 0, 255, (x, v) -> x.append(v));
        range("about(what)", BAD, 0, 10, (x, v) -> x.about(v));
        range("card(c, 0)", NO_SUCH, 0, 3, (x, v) -> x.card(v, 0));
        range("card(0, what)", BAD, 0, 3, (x, v) -> x.card(0, v));
        range("card(3, what)", BAD, 0, 3, (x, v) -> x.card(3, v));
        range("account(a, 0)", NO_SUCH, 0, 2, (x, v) -> x.account(v, 0));
        range("account(0, what)", BAD, 0, 7, (x, v) -> x.account(0, v));
        range("account(2, what)", BAD, 0, 7, (x, v) -> x.account(2, v));
        range("gate(g, 0)", NO_SUCH, 0, 3, (x, v) -> x.gate(v, 0));
        range("gate(0, what)", BAD, 0, 4, (x, v) -> x.gate(0, v));
        range("gate(2, what)", BAD, 0, 4, (x, v) -> x.gate(2, v));
        range("logged(g, 0, 0)", NO_SUCH, 1, 2, (x, v) -> x.logged(v, 0, 0));
        refused("logged(-1, 0, 0)", NO_SUCH, x -> x.logged(-1, 0, 0));
        refused("logged(4, 0, 0)", NO_SUCH, x -> x.logged(4, 0, 0));
        refused("logged(0, 0, 0) of an empty log", NO_SUCH, x -> x.logged(0, 0, 0));
        range("logged(1, k, 0)", NO_SUCH, 0, 1, (x, v) -> x.logged(1, v, 0));
        range("logged(2, k, 0)", NO_SUCH, 0, 11, (x, v) -> x.logged(2, v, 0));
        range("logged(1, 0, what)", BAD, 0, 2, (x, v) -> x.logged(1, 0, v));
        range("logged(2, 11, what)", BAD, 0, 2, (x, v) -> x.logged(2, 11, v));
        range("setting(what)", BAD, 0, 3, (x, v) -> x.setting(v));
    }

    // Promises 12 to 22
    private static void rangesOfActions() {
        range("issue(money)", BAD, 0, 99, (x, v) -> x.issue(v));
        range("copy(c)", NO_SUCH, 0, 3, (x, v) -> x.copy(v));
        range("ride(c, 0)", NO_SUCH, 0, 3, (x, v) -> x.ride(v, 0));
        range("ride(0, g)", NO_SUCH, 0, 3, (x, v) -> x.ride(0, v));
        refused("ride(-1, 4)", NO_SUCH, x -> x.ride(-1, 4));
        refused("ride(4, -1)", NO_SUCH, x -> x.ride(4, -1));
        range("pay(a, 1)", NO_SUCH, 0, 2, (x, v) -> x.pay(v, 1));
        range("pay(0, money)", BAD, 1, 99, (x, v) -> x.pay(0, v));
        outside("pardon(a)", NO_SUCH, 0, 2, (x, v) -> x.pardon(v));
        range("down(g)", NO_SUCH, 0, 3, (x, v) -> x.down(v));
        outside("up(g)", NO_SUCH, 0, 3, (x, v) -> x.up(v));
        range("open(g)", NO_SUCH, 0, 3, (x, v) -> x.open(v));
        range("fare(g, 3)", NO_SUCH, 0, 3, (x, v) -> x.fare(v, 3));
        range("fare(0, v)", BAD, 1, 9, (x, v) -> x.fare(0, v));
        range("run(n)", BAD, 1, 60, (x, v) -> x.run(v));
        range("set(what, 1)", BAD, 0, 3, (x, v) -> x.set(v, 1));
        range("set(what, 0)", BAD, 0, 3, (x, v) -> x.set(v, 0));
        range("set(0, v)", BAD, 0, 50, (x, v) -> x.set(0, v));
        range("set(1, v)", BAD, 0, 30, (x, v) -> x.set(1, v));
        range("set(2, v)", BAD, 0, 1, (x, v) -> x.set(2, v));
        range("set(3, v)", BAD, 0, 99, (x, v) -> x.set(3, v));
        refused("set(4, 100)", BAD, x -> x.set(4, 100));
        refused("set(-1, -1)", BAD, x -> x.set(-1, -1));
    }

    // Promises 24 to 29, and that these change nothing
    private static void rangesOfWouldBe() {
        range("would(c, 0)", NO_SUCH, 0, 3, (x, v) -> x.would(v, 0));
        range("would(0, g)", NO_SUCH, 0, 3, (x, v) -> x.would(0, v));
        range("rides(c, 0)", NO_SUCH, 0, 3, (x, v) -> x.rides(v, 0));
        range("rides(0, g)", NO_SUCH, 0, 3, (x, v) -> x.rides(0, v));
        range("ifUp(g, 0)", NO_SUCH, 0, 3, (x, v) -> x.ifUp(v, 0));
        range("ifUp(0, what)", BAD, 0, 3, (x, v) -> x.ifUp(0, v));
        range("ifUp(1, what)", BAD, 0, 3, (x, v) -> x.ifUp(1, v));
        range("owes(a)", NO_SUCH, 0, 2, (x, v) -> x.owes(v));
        for (int i = 0; i < 4; i++) {
            int g = i;
            Check.changesNothing("would(1, " + g + ")", RefusedTest::busy, x -> x.would(1, g));
            Check.changesNothing("rides(2, " + g + ")", RefusedTest::busy, x -> x.rides(2, g));
            Check.changesNothing("ifUp(" + g + ", 0)", RefusedTest::busy, x -> x.ifUp(g, 0));
            Check.changesNothing("ifUp(2, " + g + ")", RefusedTest::busy, x -> x.ifUp(2, g));
        }
        Check.changesNothing("bestUp()", RefusedTest::busy, x -> x.bestUp());
        Check.changesNothing("worst()", RefusedTest::busy, x -> x.worst());
        Check.changesNothing("owes(1)", RefusedTest::busy, x -> x.owes(1));
        Check.changesNothing("errorPosition()", RefusedTest::busy, x -> x.errorPosition());
    }

    // Promises 30 and 31, and that these change nothing
    private static void rangesOfScripts() {
        range("runScript(n, 0)", BAD, 1, 3, (x, v) -> x.runScript(v, 0));
        range("runScript(1, script)", BAD, 0, 9999, (x, v) -> x.runScript(1, v));
        range("runScript(2, script)", BAD, 0, 99999999, (x, v) -> x.runScript(2, v));
        for (long script : new long[] {-1, 1000000000000L, Long.MIN_VALUE, Long.MAX_VALUE, -1000000000000L, 1L << 62}) {
            refused("runScript(3, " + script + ")", BAD, x -> x.runScript(3, script));
        }
        for (long script : new long[] {0, 999999999999L}) {
            Check.answers("runScript(3, " + script + ")", () -> busy().runScript(3, script));
        }
        // (int) of these is 0 and 4001
        refused("runScript(1, 2 to the 32)", BAD, x -> x.runScript(1, 1L << 32));
        refused("runScript(2, 2 to the 32 and 4001)", BAD, x -> x.runScript(2, (1L << 32) + 4001));
        range("simulate(1, m)", BAD, 1, 80, (x, v) -> x.simulate(1, v));
        for (long script : new long[] {101022013101L, 530040605200L, 600073118030L, 200120104009L}) {
            Check.changesNothing("runScript(3, " + script + ")", RefusedTest::busy, x -> x.runScript(3, script));
        }
        for (long seed : new long[] {0, 5, -7}) {
            Check.changesNothing("simulate(" + seed + ", 80)", RefusedTest::busy, x -> x.simulate(seed, 80));
        }
    }

    // Promises 2 and 5: "if the text already has 120 characters", "if the text is not a day"
    private static void textStates() {
        Check.refused("append to 120 signs", NOT_NOW, () -> withText("Oi05" + "u0".repeat(58)), x -> x.append('u'));
        Check.answers("append to 119 signs", () -> withText("Oi05" + "u0".repeat(57) + "u").append('0'));
        for (String text : new String[] {"", "o", "O ", "Oi0", "Om61", "Oi05d4", "Oi05d0 ", "Oi05d0d"}) {
            Check.refused("load of '" + text + "'", NOT_NOW, () -> withText(text), x -> x.load());
        }
        Check.answers("load of 'O'", () -> withText("O").load());
    }

    private static OfflineGates withText(String text) {
        OfflineGates x = busy();
        x.clearText();
        Check.write(x, text);
        return x;
    }

    // Promises 12 and 13: "if there are 8 accounts, or 10 cards"
    private static void roomStates() {
        Check.refused("issue with 8 accounts", NOT_NOW, () -> crowd(8, 0), x -> x.issue(0));
        Check.refused("issue with 10 cards", NOT_NOW, () -> crowd(1, 9), x -> x.issue(0));
        Check.refused("issue with 7 accounts and 10 cards", NOT_NOW, () -> crowd(7, 3), x -> x.issue(0));
        Check.refused("issue with 8 accounts and 10 cards", NOT_NOW, () -> crowd(8, 2), x -> x.issue(0));
        Check.due("issue with 7 accounts and 9 cards", crowd(7, 2).issue(0), 9);
        Check.refused("copy with 10 cards", NOT_NOW, () -> crowd(1, 9), x -> x.copy(9));
        Check.refused("copy with 10 cards", NOT_NOW, () -> crowd(8, 2), x -> x.copy(0));
        Check.due("copy with 8 accounts and 9 cards", crowd(8, 1).copy(8), 9);
        Check.due("copy with 8 accounts and 8 cards", crowd(8, 0).copy(7), 8);
    }

    /** So many accounts, and so many copies of the first card. */
    private static OfflineGates crowd(int accounts, int copies) {
        OfflineGates x = new OfflineGates();
        for (int i = 0; i < accounts; i++) {
            x.issue(10 * i);
        }
        for (int i = 0; i < copies; i++) {
            x.copy(0);
        }
        return x;
    }

    // Promise 16: "if it is not marked"
    private static void markStates() {
        refused("pardon of an account without a mark", NOT_NOW, x -> x.pardon(1));
        Check.Maker poor = () -> Check.day("Oi01d0r00u0");
        Check.due("a balance below 0", poor.make().account(0, 4), 1);
        Check.refused("pardon of one that is blocked by its balance alone", NOT_NOW, poor, x -> x.pardon(0));
        Check.Maker pardoned = () -> {
            OfflineGates x = busy();
            x.pardon(0);
            return x;
        };
        Check.refused("pardon twice", NOT_NOW, pardoned, x -> x.pardon(0));
    }

    // Promises 17 and 18: "if it is down", "if it is up"
    private static void lineStates() {
        refused("down(1) while it is down", NOT_NOW, x -> x.down(1));
        refused("down(2) while it is down", NOT_NOW, x -> x.down(2));
        refused("up(0) while it is up", NOT_NOW, x -> x.up(0));
        refused("up(3) while it is up", NOT_NOW, x -> x.up(3));
        Check.Maker other = () -> {
            OfflineGates x = busy();
            x.up(2);
            x.down(0);
            return x;
        };
        Check.refused("up(2) twice", NOT_NOW, other, x -> x.up(2));
        Check.refused("down(0) twice", NOT_NOW, other, x -> x.down(0));
    }

    // Promise 23: "if none is remembered"
    private static void undoStates() {
        Check.refused("undo of a new object", NOT_NOW, OfflineGates::new, x -> x.undo());
        Check.refused("undo behind load", NOT_NOW, () -> Check.day("Oi05r00m09"), x -> x.undo());
        Check.refused("undo behind restore", NOT_NOW, () -> behind(x -> x.restore(1)), x -> x.undo());
        Check.refused("undo of all", NOT_NOW, () -> behind(x -> x.undo() + x.undo() + x.undo()), x -> x.undo());
        Check.answers("undo of the last one", () -> behind(x -> x.undo() + x.undo()).undo());
    }

    private static OfflineGates behind(Check.Use use) {
        OfflineGates x = busy();
        use.on(x);
        return x;
    }

    // Promises 32 and 33: "if there is no such save slot", "if nothing has been saved in it since the last load"
    private static void slotStates() {
        range("save(slot)", NO_SUCH, 0, 1, (x, v) -> x.save(v));
        outside("restore(slot)", NO_SUCH, 0, 1, (x, v) -> x.restore(v));
        refused("restore(0), which is empty", NOT_NOW, x -> x.restore(0));
        Check.refused("restore(1) of a new object", NOT_NOW, OfflineGates::new, x -> x.restore(1));
        Check.Maker loaded = () -> {
            OfflineGates x = busy();
            x.save(0);
            x.clearText();
            Check.write(x, "Oi05");
            x.load();
            return x;
        };
        Check.refused("restore(0) behind load", NOT_NOW, loaded, x -> x.restore(0));
        Check.refused("restore(1) behind load", NOT_NOW, loaded, x -> x.restore(1));
    }

    // Terms: "the one that its description names first is thrown"
    private static void firstNamedFirst() {
        Check.Maker full = () -> withText("x".repeat(120));
        Check.refused("append(-1) to 120 signs", BAD, full, x -> x.append(-1));
        Check.refused("append(256) to 120 signs", BAD, full, x -> x.append(256));
        refused("card(-1, -1)", NO_SUCH, x -> x.card(-1, -1));
        refused("card(4, 4)", NO_SUCH, x -> x.card(4, 4));
        refused("account(-1, -1)", NO_SUCH, x -> x.account(-1, -1));
        refused("account(3, 8)", NO_SUCH, x -> x.account(3, 8));
        refused("gate(-1, -1)", NO_SUCH, x -> x.gate(-1, -1));
        refused("gate(4, 5)", NO_SUCH, x -> x.gate(4, 5));
        refused("logged(-1, 0, -1)", NO_SUCH, x -> x.logged(-1, 0, -1));
        refused("logged(4, 0, 3)", NO_SUCH, x -> x.logged(4, 0, 3));
        refused("logged(1, -1, -1)", NO_SUCH, x -> x.logged(1, -1, -1));
        refused("logged(1, 2, 3)", NO_SUCH, x -> x.logged(1, 2, 3));
        Check.refused("issue(-1) with 8 accounts", BAD, () -> crowd(8, 0), x -> x.issue(-1));
        Check.refused("issue(100) with 10 cards", BAD, () -> crowd(1, 9), x -> x.issue(100));
        Check.refused("copy(-1) with 10 cards", NO_SUCH, () -> crowd(2, 8), x -> x.copy(-1));
        Check.refused("copy(10) with 10 cards", NO_SUCH, () -> crowd(2, 8), x -> x.copy(10));
        refused("pay(-1, 0)", NO_SUCH, x -> x.pay(-1, 0));
        refused("pay(3, 100)", NO_SUCH, x -> x.pay(3, 100));
        refused("fare(-1, 0)", NO_SUCH, x -> x.fare(-1, 0));
        refused("fare(4, 10)", NO_SUCH, x -> x.fare(4, 10));
        refused("ifUp(-1, -1)", NO_SUCH, x -> x.ifUp(-1, -1));
        refused("ifUp(4, 4)", NO_SUCH, x -> x.ifUp(4, 4));
        Check.refused("restore(-1) without slots", NO_SUCH, OfflineGates::new, x -> x.restore(-1));
        Check.refused("restore(2) without slots", NO_SUCH, OfflineGates::new, x -> x.restore(2));
    }
}
