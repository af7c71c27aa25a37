import java.lang.reflect.InvocationTargetException;
import java.lang.reflect.Method;
import java.util.ArrayList;
import java.util.Arrays;
import java.util.List;
import java.util.Random;

/** All promises: runs of random calls, each with the answer of the model. */
public final class ModelTest {
    private static final int RUNS = 1500;
    private static final int CALLS = 300;
    private static final int MOST_CALLS = 512;
    private static final String[] ACTIONS = {"ride", "ride", "ride", "ride", "ride", "run", "run", "run", "issue", "issue",
        "copy", "pay", "pardon", "down", "up", "open", "fare", "set"};
    private static final String[] LOOKS = {"about", "card", "account", "gate", "logged", "setting", "would", "rides",
        "ifUp", "bestUp", "worst", "owes", "runScript", "simulate", "undo", "save", "restore", "errorPosition"};

    private final Random random;
    private final boolean wild;
    private final OfflineGates program = new OfflineGates();
    private final Model model = new Model();
    private final List<String> calls = new ArrayList<>();
    private boolean differs = false;

    private ModelTest(long seed) {
        random = new Random(seed);
        wild = seed % 5 == 0;
    }

    public static void main(String[] args) throws ReflectiveOperationException {
        int wrong = 0;
        for (int seed = 0; seed < RUNS && wrong < 3; seed++) {
            ModelTest run = new ModelTest(seed);
            run.go();
            if (run.differs) {
                wrong++;
            }
        }
        Check.due("runs that differ from the model", wrong, 0);
        Check.end();
    }

    private void go() throws ReflectiveOperationException {
        if (random.nextInt(3) > 0) {
            loadDay();
        }
        settle();
        while (calls.size() < CALLS && !differs) {
            int kind = random.nextInt(10);
            if (kind < 6) {
                randomCall(ACTIONS[random.nextInt(ACTIONS.length)]);
            } else if (kind < 9 || random.nextInt(20) > 0) {
                randomCall(LOOKS[random.nextInt(LOOKS.length)]);
            } else {
                loadDay();
            }
        }
        lookAtAll();
    }

    /** Some runs have settings under which logs get full and doubles are not deadly. */
    private void settle() throws ReflectiveOperationException {
        if (random.nextBoolean()) {
            call("set", 1, random.nextInt(3));
            call("set", 3, random.nextInt(6));
            call("set", 0, 50);
            call("fare", random.nextInt(4), 1);
        }
    }

    private void loadDay() throws ReflectiveOperationException {
        if (calls.size() > CALLS - 60) {
            return;
        }
        call("clearText");
        String day = day();
        for (int i = 0; i < day.length(); i++) {
            call("append", (int) day.charAt(i));
        }
        call("errorPosition");
        call("load");
    }

    private String day() {
        StringBuilder s = new StringBuilder("O");
        String[] forms = {"i##", "c$", "r$3", "r$3", "r$3", "t7##", "d3", "u3", "o3", "m1#"};
        int n = random.nextInt(16);
        for (int i = 0; i < n; i++) {
            String form = i < 2 ? "i##" : forms[random.nextInt(forms.length)];
            for (char f : form.toCharArray()) {
                s.append(f == '#' ? digit(10) : f == '$' ? digit(4) : f == '3' ? digit(4) : f == '7' ? digit(3)
                    : f == '1' ? digit(2) : f);
            }
        }
        if (random.nextInt(6) == 0) {
            s.setCharAt(random.nextInt(s.length()), "Oicrtduom0123456789 x".charAt(random.nextInt(21)));
        }
        return s.toString();
    }

    private char digit(int below) {
        return (char) ('0' + random.nextInt(below));
    }

    private int pick(int least, int most) {
        if (wild && random.nextInt(6) == 0) {
            int[] odd = {least - 1, most + 1, least, most, Integer.MIN_VALUE, Integer.MAX_VALUE, -1, 0};
            return odd[random.nextInt(odd.length)];
        }
        return random.nextInt(60) == 0 ? least - 1 + random.nextInt(2) * (most - least + 2)
            : least + random.nextInt(most - least + 1);
    }

    private int card() {
        return pick(0, Math.max(0, model.about(0) - 1));
    }

    private int account() {
        return pick(0, Math.max(0, model.about(1) - 1));
    }

    private void randomCall(String name) throws ReflectiveOperationException {
        switch (name) {
            case "about": call(name, pick(0, 10)); break;
            case "card": call(name, card(), pick(0, 3)); break;
            case "account": call(name, account(), pick(0, 7)); break;
            case "gate": call(name, pick(0, 3), pick(0, 4)); break;
            case "logged": call(name, pick(0, 3), pick(0, 12), pick(0, 2)); break;
            case "setting": call(name, pick(0, 3)); break;
            case "issue": call(name, pick(0, 99)); break;
            case "copy": if (random.nextInt(3) == 0) { call(name, card()); } break;
            case "ride":
            case "would":
            case "rides": call(name, card(), pick(0, 3)); break;
            case "pay": call(name, account(), pick(1, 99)); break;
            case "pardon":
            case "owes": call(name, account()); break;
            case "down":
            case "up":
            case "open": if (!name.equals("open") || random.nextInt(3) == 0) { call(name, pick(0, 3)); } break;
            case "fare": call(name, pick(0, 3), pick(1, 9)); break;
            case "run": call(name, random.nextInt(3) == 0 ? pick(1, 60) : pick(1, 6)); break;
            case "set": if (random.nextInt(3) == 0) { set(pick(0, 3)); } break;
            case "ifUp": call(name, pick(0, 3), pick(0, 3)); break;
            case "runScript": script(); break;
            case "simulate": call(name, random.nextLong(), pick(1, 80)); break;
            case "save":
            case "restore": if (random.nextInt(4) == 0) { call(name, pick(0, 1)); } break;
            default: call(name); break;
        }
    }

    private void set(int what) throws ReflectiveOperationException {
        int[] most = {50, 30, 1, 99};
        call("set", what, what < 0 || what > 3 ? 0 : pick(0, most[what]));
    }

    private void script() throws ReflectiveOperationException {
        int n = pick(1, 3);
        StringBuilder s = new StringBuilder("0");
        int groups = random.nextInt(30) == 0 ? n + 1 : n;
        for (int i = 0; i < groups && i < 4; i++) {
            String[] forms = {"1$30", "1$30", "2$##", "3301", "3300", "400#", "5$00", "6$00", "6$01", "73%#", "8$##",
                "900#", "####"};
            for (char f : forms[random.nextInt(forms.length)].toCharArray()) {
                s.append(f == '#' ? digit(10) : f == '$' ? digit(5) : f == '%' ? digit(2) : f);
            }
        }
        call("runScript", n, random.nextInt(50) == 0 ? -random.nextInt(99) : Long.parseLong(s.toString()));
    }

    private void lookAtAll() throws ReflectiveOperationException {
        for (int w = 0; w <= 10 && !differs; w++) {
            call("about", w);
        }
        for (int c = 0; c < model.about(0); c++) {
            for (int w = 0; w <= 3; w++) {
                call("card", c, w);
            }
        }
        for (int a = 0; a < model.about(1); a++) {
            for (int w = 0; w <= 7; w++) {
                call("account", a, w);
            }
            call("owes", a);
        }
        for (int g = 0; g < 4; g++) {
            for (int w = 0; w <= 4; w++) {
                call("gate", g, w);
            }
            for (int k = 0; k < model.gate(g, 3) && calls.size() < MOST_CALLS; k++) {
                call("logged", g, k, k % 3);
            }
        }
    }

    private void call(String name, Object... args) throws ReflectiveOperationException {
        if (differs || calls.size() >= MOST_CALLS) {
            return;
        }
        String got = answer(program, OfflineGates.class, name, args);
        String want = answer(model, Model.class, name, args);
        calls.add(name + Arrays.toString(args) + " " + got);
        if (!got.equals(want)) {
            differs = true;
            System.out.println(String.join("\n", calls) + " DUE IS " + want);
        }
    }

    private static String answer(Object on, Class<?> face, String name, Object[] args) throws ReflectiveOperationException {
        Class<?>[] types = new Class<?>[args.length];
        for (int i = 0; i < args.length; i++) {
            types[i] = args[i] instanceof Long ? long.class : int.class;
        }
        Method method = face.getMethod(name, types);
        try {
            return String.valueOf(method.invoke(on, args));
        } catch (InvocationTargetException e) {
            return "throws." + e.getCause().getClass().getSimpleName();
        }
    }
}
