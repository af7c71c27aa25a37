/** Promises 32 and 33: the save slots. */
public final class SlotsTest {
    public static void main(String[] args) {
        save();
        restore();
        Check.end();
    }

    // Promise 32
    private static void save() {
        OfflineGates x = Check.day("Oi20d0r00m07");
        Check.noSuch("save(-1)", () -> x.save(-1));
        Check.noSuch("save(2)", () -> x.save(2));
        String before = Check.picture(x);
        Check.due("save(0)", x.save(0), 7);
        Check.same("save changes nothing", Check.picture(x), before);
        Check.badState("save is no action", x::undo);
        x.run(3);
        Check.due("save(1)", x.save(1), 10);
        x.run(5);
        Check.due("save(1) again", x.save(1), 15);
        Check.due("what undo had is kept", x.undo(), 1);
        Check.due("slot 0", x.restore(0), 7);
        Check.due("slot 1", x.restore(1), 15);
    }

    // Promise 33
    private static void restore() {
        OfflineGates x = Check.day("Oi20c0i30d1r01r00r10");
        Check.noSuch("restore(-1)", () -> x.restore(-1));
        Check.noSuch("restore(2)", () -> x.restore(2));
        Check.badState("restore(0)", () -> x.restore(0));
        Check.badState("restore(1)", () -> x.restore(1));
        x.save(0);
        Check.badState("the other one", () -> x.restore(1));
        String saved = Check.picture(x);
        x.issue(9);
        x.ride(2, 1);
        x.up(1);
        x.down(3);
        x.open(2);
        x.fare(0, 8);
        x.pay(0, 50);
        x.pardon(0);
        x.set(0, 1);
        x.set(1, 1);
        x.set(2, 1);
        x.set(3, 1);
        x.run(11);
        Check.badState("restore(1)", () -> x.restore(1));
        Check.due("a call that throws forgets nothing", x.undo(), 12);
        x.run(1);
        x.clearText();
        Check.due("restore(0)", x.restore(0), 0);
        Check.same("as it was", Check.picture(x), saved);
        Check.badState("nothing to undo", x::undo);
        Check.due("the text is not restored", x.clearText(), 0);
        x.ride(1, 1);
        x.run(9);
        Check.due("the slot keeps it", x.restore(0), 0);
        Check.same("as it was", Check.picture(x), saved);
        x.run(4);
        x.save(1);
        Check.due("slot 0", x.restore(0), 0);
        Check.due("slot 1", x.restore(1), 4);
        Check.write(x, "O");
        x.load();
        Check.badState("load empties the slots", () -> x.restore(0));
        Check.badState("load empties the slots", () -> x.restore(1));

        OfflineGates y = Check.day("Oi50c0");
        y.save(0);
        y.ride(0, 0);
        y.restore(0);
        y.ride(1, 0);
        Check.due("counts that were settled are restored, too", y.about(5), 0);
    }
}
