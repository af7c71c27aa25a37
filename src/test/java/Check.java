/** Counts the answers that are not as due; a test ends with exit code 1 if there was one. */
final class Check {
    private static int wrong = 0;
    private static int asked = 0;

    interface Call {
        long answer();
    }

    /** How an object is made, so that it can be made twice. */
    interface Maker {
        OfflineGates make();
    }

    interface Use {
        long on(OfflineGates x);
    }

    private Check() {
    }

    static void due(String what, long got, long want) {
        asked++;
        if (got != want) {
            wrong++;
            System.out.println(what + " answered " + got + ", due is " + want);
        }
    }

    static void isTrue(String what, boolean holds) {
        due(what, holds ? 1 : 0, 1);
    }

    /** The call must throw exactly this class. */
    static void dueThrow(String what, Class<? extends RuntimeException> want, Call call) {
        asked++;
        String got;
        try {
            got = "answered " + call.answer();
        } catch (RuntimeException e) {
            if (e.getClass() == want) {
                return;
            }
            got = "threw " + e;
        }
        wrong++;
        System.out.println(what + " " + got + ", due is " + want.getSimpleName());
    }

    static void noSuch(String what, Call call) {
        dueThrow(what, IndexOutOfBoundsException.class, call);
    }

    static void badArgument(String what, Call call) {
        dueThrow(what, IllegalArgumentException.class, call);
    }

    static void badState(String what, Call call) {
        dueThrow(what, IllegalStateException.class, call);
    }

    static void write(OfflineGates x, String text) {
        for (int i = 0; i < text.length(); i++) {
            x.append(text.charAt(i));
        }
    }

    /** A new object that has loaded a day. */
    static OfflineGates day(String text) {
        OfflineGates x = new OfflineGates();
        write(x, text);
        x.load();
        return x;
    }

    /** The call answers, whatever it is. */
    static void answers(String what, Call call) {
        asked++;
        try {
            call.answer();
        } catch (RuntimeException e) {
            wrong++;
            System.out.println(what + " threw " + e + ", due is an answer");
        }
    }

    /** The call throws exactly this class, and leaves all as in an object of which it was not asked. */
    static void refused(String what, Class<? extends RuntimeException> want, Maker maker, Use use) {
        OfflineGates x = maker.make();
        dueThrow(what, want, () -> use.on(x));
        same(what + " changes nothing", whole(x), whole(maker.make()));
    }

    /** The call answers, and leaves all as in an object of which it was not asked. */
    static void changesNothing(String what, Maker maker, Use use) {
        OfflineGates x = maker.make();
        answers(what, () -> use.on(x));
        same(what + " changes nothing", whole(x), whole(maker.make()));
    }

    /** All numbers that can be asked for, so that two objects can be compared: some 280 calls at most. */
    static String picture(OfflineGates x) {
        StringBuilder s = new StringBuilder(totals(x));
        int cards = x.about(0);
        int accounts = x.about(1);
        for (int c = 0; c < cards; c++) {
            s.append("\n      card ").append(c).append(':');
            for (int w = 0; w <= 3; w++) {
                s.append(' ').append(x.card(c, w));
            }
        }
        for (int a = 0; a < accounts; a++) {
            s.append("\n      account ").append(a).append(':');
            for (int w = 0; w <= 7; w++) {
                s.append(' ').append(x.account(a, w));
            }
        }
        for (int g = 0; g < 4; g++) {
            s.append("\n      gate ").append(g).append(':');
            for (int w = 0; w <= 4; w++) {
                s.append(' ').append(x.gate(g, w));
            }
            int rides = x.gate(g, 3);
            for (int k = 0; k < rides; k++) {
                s.append(" (").append(x.logged(g, k, 0)).append(' ').append(x.logged(g, k, 1)).append(' ')
                    .append(x.logged(g, k, 2)).append(')');
            }
        }
        return s.toString();
    }

    private static String totals(OfflineGates x) {
        StringBuilder s = new StringBuilder("about:");
        for (int w = 0; w <= 10; w++) {
            s.append(' ').append(x.about(w));
        }
        s.append(", settings:");
        for (int w = 0; w <= 3; w++) {
            s.append(' ').append(x.setting(w));
        }
        return s.toString();
    }

    /**
     * All that can be learnt of an object, the text, the remembered states and the slots, too. It uses the object up.
     * Which counts were settled is told by the rides of a card: a double blocks it.
     */
    private static String whole(OfflineGates x) {
        StringBuilder s = new StringBuilder(picture(x));
        int cards = x.about(0);
        for (int c = 0; c < cards; c++) {
            s.append("\n      rides of ").append(c).append(':');
            for (int g = 0; g < 4; g++) {
                s.append(' ').append(x.rides(c, g));
            }
        }
        s.append("\n      text: ").append(x.errorPosition()).append(' ').append(x.clearText());
        boolean more = true;
        while (more) {
            try {
                s.append("\n      undo: ").append(x.undo()).append(' ').append(totals(x));
            } catch (IllegalStateException e) {
                more = false;
            }
        }
        for (int slot = 0; slot <= 1; slot++) {
            try {
                s.append("\n      slot: ").append(x.restore(slot)).append(' ').append(totals(x));
            } catch (IllegalStateException e) {
                s.append("\n      no slot ").append(slot);
            }
        }
        return s.toString();
    }

    static void same(String what, String got, String want) {
        asked++;
        if (!got.equals(want)) {
            wrong++;
            System.out.println(what + ":\n  is  " + got + "\n  due " + want);
        }
    }

    static void end() {
        System.out.println(asked + " asked, " + wrong + " wrong");
        System.exit(wrong == 0 ? 0 : 1);
    }
}
