import java.lang.reflect.Constructor;
import java.lang.reflect.Field;
import java.lang.reflect.Member;
import java.lang.reflect.Method;
import java.lang.reflect.Modifier;
import java.util.ArrayList;
import java.util.Arrays;
import java.util.Collections;
import java.util.List;

/** The public face of the document, its constants, and no member more that others could see. */
public final class FaceTest {
    private static final String FACE = "int begin(int, int); int set(int, int); int setSeed(int); int turn(int, int);"
        + " int pay(int, int); int commit(int, int, int); int reveal(int, int, int); int publish(int, int, int);"
        + " int give(int, int); int tick(int); int next(); int undo(); int told(int); int setting(int);"
        + " int member(int, int); int mark(int, int); int share(int, int); int commitment(int, int, int);"
        + " int openings(int, int); int past(int); int honest(); int outcome(); int influence(int); float mean();"
        + " int keep(int); int back(int)";

    public static void main(String[] args) {
        Checks.name("The public face");
        Checks.due("BAD", RevealBeacon.BAD, -1);
        Checks.due("STATE", RevealBeacon.STATE, -2);
        Checks.due("FULL", RevealBeacon.FULL, -3);
        Checks.due("NONE", RevealBeacon.NONE, -9);
        Checks.due("public and final", RevealBeacon.class.getModifiers(), Modifier.PUBLIC | Modifier.FINAL);
        Checks.same("the methods", methods(), sorted(new ArrayList<>(Arrays.asList(FACE.split("; ")))));
        Checks.same("the constants", constants(), "[BAD, FULL, NONE, STATE]");
        Constructor<?>[] constructors = RevealBeacon.class.getDeclaredConstructors();
        Checks.due("constructors", constructors.length, 1);
        Checks.due("its parameters", constructors[0].getParameterCount(), 0);
        Checks.due("it is public", constructors[0].getModifiers(), Modifier.PUBLIC);
        for (Class<?> inside : RevealBeacon.class.getDeclaredClasses()) {
            checkInside(inside);
        }
        Checks.finish("FaceTest");
    }

    /** A class inside is private and static, and none of its methods is named as a public one. */
    private static void checkInside(Class<?> inside) {
        int modifiers = inside.getModifiers() & (Modifier.PRIVATE | Modifier.STATIC);
        Checks.due(inside + " is private and static", modifiers, Modifier.PRIVATE | Modifier.STATIC);
        Checks.due(inside + " has some twenty fields", inside.getDeclaredFields().length <= 20 ? 1 : 0, 1);
        for (Method m : inside.getDeclaredMethods()) {
            Checks.due(m + " has a name of its own", FACE.contains(" " + m.getName() + "(") ? 0 : 1, 1);
        }
    }

    private static boolean seen(Member member) {
        return !Modifier.isPrivate(member.getModifiers()) && !member.isSynthetic();
    }

    private static String sorted(List<String> list) {
        Collections.sort(list);
        return list.toString();
    }

    private static String methods() {
        List<String> found = new ArrayList<>();
        for (Method m : RevealBeacon.class.getDeclaredMethods()) {
            if (!seen(m)) {
                Checks.due(m + " has a name of its own", FACE.contains(" " + m.getName() + "(") ? 0 : 1, 1);
            } else {
                Checks.due(m.getName() + " is public alone", m.getModifiers(), Modifier.PUBLIC);
                String parameters = Arrays.toString(m.getParameterTypes()).replace('[', '(').replace(']', ')');
                found.add(m.getReturnType() + " " + m.getName() + parameters);
            }
        }
        return sorted(found);
    }

    private static String constants() {
        List<String> found = new ArrayList<>();
        for (Field f : RevealBeacon.class.getDeclaredFields()) {
            if (seen(f)) {
                int constant = Modifier.PUBLIC | Modifier.STATIC | Modifier.FINAL;
                Checks.due(f.getName() + " is a constant", f.getModifiers(), constant);
                Checks.same("the type of " + f.getName(), f.getType().toString(), "int");
                found.add(f.getName());
            }
        }
        return sorted(found);
    }
}
