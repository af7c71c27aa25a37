import java.lang.reflect.Constructor;
import java.lang.reflect.Field;
import java.lang.reflect.Method;
import java.lang.reflect.Modifier;
import java.util.Set;
import java.util.TreeSet;

/** The public face: just the members of the document, and no private method with the name of one of them. */
public final class FaceTest {
    private static final String[] FACE = {
        "append(int)", "clearText()", "errorPosition()", "load()", "about(int)", "card(int,int)", "account(int,int)",
        "gate(int,int)", "logged(int,int,int)", "setting(int)", "issue(int)", "copy(int)", "ride(int,int)",
        "pay(int,int)", "pardon(int)", "down(int)", "up(int)", "open(int)", "fare(int,int)", "run(int)", "set(int,int)",
        "undo()", "would(int,int)", "rides(int,int)", "ifUp(int,int)", "bestUp()", "worst()", "owes(int)",
        "runScript(int,long)", "simulate(long,int)", "save(int)", "restore(int)"};

    public static void main(String[] args) {
        Set<String> methods = new TreeSet<>();
        Set<String> names = new TreeSet<>();
        for (Method m : OfflineGates.class.getDeclaredMethods()) {
            if (Modifier.isPrivate(m.getModifiers()) || m.isSynthetic()) {
                continue;
            }
            methods.add(signature(m));
            names.add(m.getName());
            Check.isTrue(m + " is public", Modifier.isPublic(m.getModifiers()));
            Check.isTrue(m + " answers an int", m.getReturnType() == int.class);
        }
        Check.same("the methods", methods.toString(), new TreeSet<>(Set.of(FACE)).toString());
        for (Method m : OfflineGates.class.getDeclaredMethods()) {
            Check.isTrue(m + " hides no name", Modifier.isPublic(m.getModifiers()) || !names.contains(m.getName()));
        }
        for (Field f : OfflineGates.class.getDeclaredFields()) {
            Check.isTrue(f + " is private", f.getName().equals("NONE") || Modifier.isPrivate(f.getModifiers()));
        }
        Check.due("NONE", OfflineGates.NONE, -1);
        Constructor<?>[] constructors = OfflineGates.class.getDeclaredConstructors();
        Check.due("constructors", constructors.length, 1);
        Check.isTrue("public constructor", Modifier.isPublic(constructors[0].getModifiers()));
        Check.isTrue("final", Modifier.isFinal(OfflineGates.class.getModifiers()));
        Check.end();
    }

    private static String signature(Method m) {
        StringBuilder s = new StringBuilder(m.getName()).append('(');
        for (Class<?> type : m.getParameterTypes()) {
            s.append(s.charAt(s.length() - 1) == '(' ? "" : ",").append(type.getName());
        }
        return s.append(')').toString();
    }
}
