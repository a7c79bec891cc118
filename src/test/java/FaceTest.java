import java.lang.reflect.Constructor;
import java.lang.reflect.Field;
import java.lang.reflect.Method;
import java.lang.reflect.Modifier;
import java.util.Arrays;
import java.util.Set;
import java.util.TreeSet;

/** The class shows the document's face and nothing else (rule 1 of LANGUAGE.md). */
public final class FaceTest {
    private static final String[] FACE = {
        "boolean folds(boolean)", "int feed(int, int, int, int, int)", "int end(int)", "int file(int)",
        "boolean remove(int)", "int hand(int, int)", "int at(int)", "int rule()", "int place()", "int fits(int, int)",
        "int plan(int, int, int, int, boolean)", "int planned(int, int)", "int newName(int, int)", "int steps()",
        "int step(int, int)", "int go(int)", "int back(int)", "int stuck()", "int link(int)", "int linkOf(int, int)",
        "int of(int, int) throws NoSuchElementException", "int count(int)",
    };

    public static void main(String[] args) {
        Set<String> due = new TreeSet<>(Arrays.asList(FACE));
        due.add("int NONE");
        due.add("new()");
        Set<String> found = new TreeSet<>();
        Set<String> hidden = new TreeSet<>();
        for (Method m : NameTurner.class.getDeclaredMethods()) {
            if (Modifier.isPrivate(m.getModifiers())) {
                hidden.add(m.getName());
            } else {
                found.add(written(m));
            }
        }
        for (Class<?> inside : NameTurner.class.getDeclaredClasses()) {
            for (Method m : inside.getDeclaredMethods()) {
                hidden.add(m.getName());
            }
        }
        for (Constructor<?> c : NameTurner.class.getDeclaredConstructors()) {
            found.add("new" + list(c.getParameterTypes()));
        }
        for (Field f : NameTurner.class.getDeclaredFields()) {
            if (!Modifier.isPrivate(f.getModifiers())) {
                found.add(f.getType().getSimpleName() + " " + f.getName());
            }
        }
        boolean right = Modifier.isFinal(NameTurner.class.getModifiers()) && due.equals(found);
        for (Method m : NameTurner.class.getMethods()) {
            right &= m.getDeclaringClass() == Object.class || !hidden.contains(m.getName());
        }
        System.out.println("FaceTest: " + (right ? "the face is as due" : "due is " + due + ", found " + found));
        if (!right) {
            System.exit(1);
        }
    }

    private static String written(Method m) {
        StringBuilder s = new StringBuilder(m.getReturnType().getSimpleName());
        s.append(' ').append(m.getName()).append(list(m.getParameterTypes()));
        for (Class<?> e : m.getExceptionTypes()) {
            s.append(" throws ").append(e.getSimpleName());
        }
        return s.toString();
    }

    private static String list(Class<?>[] types) {
        StringBuilder s = new StringBuilder("(");
        for (int i = 0; i < types.length; i++) {
            s.append(i == 0 ? "" : ", ").append(types[i].getSimpleName());
        }
        return s.append(')').toString();
    }
}
