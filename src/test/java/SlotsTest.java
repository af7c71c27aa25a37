/** Promises 32 and 33: the save slots. */
public final class SlotsTest {
    public static void main(String[] args) {
        save();
        restore();
        bothSlots();
        whatASlotKeeps();
        rememberedStates();
        Check.end();
    }

    // Promise 32
    private static void save() {
        OfflineGates x = Check.day("Oi20d0r00m07");
        Check.noSuch("save(-1)", () -> x.save(-1));
        Check.noSuch("save(2)", () -> x.save(2));
        String before = Check.picture(x);
        Check.due("save(0)", x.save(0), 7);
        Check.same("save changes nothing", Check.picture(x), before);
        Check.badState("save is no action", x::undo);
        x.run(3);
        Check.due("save(1)", x.save(1), 10);
        x.run(5);
        Check.due("save(1) again", x.save(1), 15);
        Check.due("what undo had is kept", x.undo(), 1);
        Check.due("slot 0", x.restore(0), 7);
        Check.due("slot 1", x.restore(1), 15);
    }

    // Promise 33
    private static void restore() {
        OfflineGates x = Check.day("Oi20c0i30d1r01r00r10");
        Check.noSuch("restore(-1)", () -> x.restore(-1));
        Check.noSuch("restore(2)", () -> x.restore(2));
        Check.badState("restore(0)", () -> x.restore(0));
        Check.badState("restore(1)", () -> x.restore(1));
        x.save(0);
        Check.badState("the other one", () -> x.restore(1));
        String saved = Check.picture(x);
        x.issue(9);
        x.ride(2, 1);
        x.up(1);
        x.down(3);
        x.open(2);
        x.fare(0, 8);
        x.pay(0, 50);
        x.pardon(0);
        x.set(0, 1);
        x.set(1, 1);
        x.set(2, 1);
        x.set(3, 1);
        x.run(11);
        Check.badState("restore(1)", () -> x.restore(1));
        Check.due("a call that throws forgets nothing", x.undo(), 12);
        x.run(1);
        x.clearText();
        Check.due("restore(0)", x.restore(0), 0);
        Check.same("as it was", Check.picture(x), saved);
        Check.badState("nothing to undo", x::undo);
        Check.due("the text is not restored", x.clearText(), 0);
        x.ride(1, 1);
        x.run(9);
        Check.due("the slot keeps it", x.restore(0), 0);
        Check.same("as it was", Check.picture(x), saved);
        x.run(4);
        x.save(1);
        Check.due("slot 0", x.restore(0), 0);
        Check.due("slot 1", x.restore(1), 4);
        Check.write(x, "O");
        x.load();
        Check.badState("load empties the slots", () -> x.restore(0));
        Check.badState("load empties the slots", () -> x.restore(1));

        OfflineGates y = Check.day("Oi50c0");
        y.save(0);
        y.ride(0, 0);
        y.restore(0);
        y.ride(1, 0);
        Check.due("counts that were settled are restored, too", y.about(5), 0);
    }

    // "slot: 0 or 1": each has a state of its own, "since the last load"
    private static void bothSlots() {
        for (int i = 0; i <= 1; i++) {
            int slot = i;
            int other = 1 - i;
            OfflineGates x = new OfflineGates();
            Check.badState("empty at first", () -> x.restore(slot));
            Check.due("save of a new object", x.save(slot), 0);
            Check.badState("the other one is empty", () -> x.restore(other));
            x.run(4);
            Check.due("restore", x.restore(slot), 0);
            Check.due("now", x.about(2), 0);
            x.run(9);
            Check.due("save the other one", x.save(other), 9);
            Check.due("restore", x.restore(slot), 0);
            Check.due("restore the other one", x.restore(other), 9);
            x.run(60);
            Check.due("save again", x.save(slot), 69);
            Check.due("the other one keeps it", x.restore(other), 9);
            Check.due("the new one", x.restore(slot), 69);
            Check.write(x, "Om02");
            x.load();
            Check.badState("empty behind load", () -> x.restore(slot));
            Check.badState("empty behind load", () -> x.restore(other));
            Check.due("saved since the load", x.save(slot), 2);
            Check.badState("still empty", () -> x.restore(other));
            x.append('!');
            Check.badState("no day", x::load);
            Check.due("not emptied by a load that throws", x.restore(slot), 2);
        }
    }

    /** Neither actions nor undo reach into a slot, nor do later saves into the state. */
    private static void whatASlotKeeps() {
        OfflineGates x = Check.day("Oi40c0i30d1r01r21m05r00o3");
        String saved = Check.picture(x);
        x.save(0);
        x.up(1);
        x.ride(1, 0);
        x.down(2);
        x.undo();
        x.save(1);
        String later = Check.picture(x);
        Check.due("slot 0", x.restore(0), 5);
        Check.same("slot 0", Check.picture(x), saved);
        x.issue(9);
        x.open(3);
        Check.due("slot 1", x.restore(1), 5);
        Check.same("slot 1", Check.picture(x), later);
    }

    // Promise 33: "and forgets all remembered states"; promise 32: save changes nothing
    private static void rememberedStates() {
        for (int n : new int[] {0, 1, 13, 14, 15}) {
            OfflineGates x = new OfflineGates();
            x.save(1);
            for (int i = 0; i < n; i++) {
                x.run(1);
            }
            Check.due("save", x.save(0), n);
            if (n > 0) {
                Check.due("save forgets nothing", x.undo(), Math.min(n, 14) - 1);
            }
            Check.due("restore", x.restore(0), n);
            Check.badState("restore forgets all", x::undo);
            x.run(1);
            Check.due("one state is remembered", x.undo(), 0);
            Check.due("it is the one of the slot", x.about(2), n);
            x.run(1);
            Check.due("restore", x.restore(1), 0);
            Check.badState("restore forgets all", x::undo);
        }
    }
}
