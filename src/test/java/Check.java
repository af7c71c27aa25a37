/** Counts the answers that are not as due; a test ends with exit code 1 if there was one. */
final class Check {
    private static int wrong = 0;
    private static int asked = 0;

    interface Call {
        long answer();
    }

    private Check() {
    }

    static void due(String what, long got, long want) {
        asked++;
        if (got != want) {
            wrong++;
            System.out.println(what + " answered " + got + ", due is " + want);
        }
    }

    static void isTrue(String what, boolean holds) {
        due(what, holds ? 1 : 0, 1);
    }

    /** The call must throw exactly this class. */
    static void dueThrow(String what, Class<? extends RuntimeException> want, Call call) {
        asked++;
        String got;
        try {
            got = "answered " + call.answer();
        } catch (RuntimeException e) {
            if (e.getClass() == want) {
                return;
            }
            got = "threw " + e;
        }
        wrong++;
        System.out.println(what + " " + got + ", due is " + want.getSimpleName());
    }

    static void noSuch(String what, Call call) {
        dueThrow(what, IndexOutOfBoundsException.class, call);
    }

    static void badArgument(String what, Call call) {
        dueThrow(what, IllegalArgumentException.class, call);
    }

    static void badState(String what, Call call) {
        dueThrow(what, IllegalStateException.class, call);
    }

    static void write(OfflineGates x, String text) {
        for (int i = 0; i < text.length(); i++) {
            x.append(text.charAt(i));
        }
    }

    /** A new object that has loaded a day. */
    static OfflineGates day(String text) {
        OfflineGates x = new OfflineGates();
        write(x, text);
        x.load();
        return x;
    }

    /** All numbers that can be asked for, so that two objects can be compared. */
    static String picture(OfflineGates x) {
        StringBuilder s = new StringBuilder();
        for (int w = 0; w <= 10; w++) {
            s.append(x.about(w)).append(' ');
        }
        for (int c = 0; c < x.about(0); c++) {
            for (int w = 0; w <= 3; w++) {
                s.append(x.card(c, w)).append(' ');
            }
        }
        for (int a = 0; a < x.about(1); a++) {
            for (int w = 0; w <= 7; w++) {
                s.append(x.account(a, w)).append(' ');
            }
        }
        for (int g = 0; g < 4; g++) {
            for (int w = 0; w <= 4; w++) {
                s.append(x.gate(g, w)).append(' ');
            }
            for (int k = 0; k < x.gate(g, 3); k++) {
                for (int w = 0; w <= 2; w++) {
                    s.append(x.logged(g, k, w)).append(' ');
                }
            }
            s.append(x.setting(g)).append(' ');
        }
        return s.toString();
    }

    static void same(String what, String got, String want) {
        asked++;
        if (!got.equals(want)) {
            wrong++;
            System.out.println(what + ":\n  is  " + got + "\n  due " + want);
        }
    }

    static void end() {
        System.out.println(asked + " asked, " + wrong + " wrong");
        System.exit(wrong == 0 ? 0 : 1);
    }
}
