import java.lang.reflect.Constructor;
import java.lang.reflect.Field;
import java.lang.reflect.Method;
import java.lang.reflect.Modifier;
import java.util.Set;
import java.util.TreeSet;

/** The class's face: what is public is what the document has, and all else is private. */
public final class FaceTest {
    private static final String[] FACE = {
        "int about(int, int)", "int access(int, int, int, boolean, int)", "int best(int)",
        "int cell(int, int) throws IllegalArgumentException", "int copy(int, int, int, int, int)", "int count(int)",
        "long element(int, int) throws IllegalArgumentException IllegalStateException", "int far(int, int)",
        "int fault(int, int)", "int gap(int)", "int keep(int, int, int)", "int link(int, int, int, int)",
        "int linked(int, int, int)", "int log(int, int)", "int look(int, int)", "int make(int, int, int)",
        "int node(int, int)", "int other(int, int, int, int)", "int page(int)", "int place(int, int)",
        "int prices(int, int)", "int read(int) throws IllegalArgumentException", "int rule(int, int, int)",
        "int run(int)", "int same()", "int settle(int, int)", "int swap(int, int)", "int thread(int)",
        "int toss(int)", "int way(int, int, int)", "int weight(int)",
    };

    private static final Due due = new Due();

    public static void main(String[] args) {
        Set<String> names = new TreeSet<>();
        Set<String> found = new TreeSet<>();
        for (Method m : FarCells.class.getDeclaredMethods()) {
            if (Modifier.isPublic(m.getModifiers())) {
                found.add(textOf(m));
                names.add(m.getName());
            }
        }
        due.is("the face", found.toString(), new TreeSet<>(java.util.List.of(FACE)).toString());
        due.is("public and final", FarCells.class.getModifiers(), Modifier.PUBLIC | Modifier.FINAL);
        Constructor<?>[] constructors = FarCells.class.getDeclaredConstructors();
        due.is("constructors", constructors.length, 1);
        due.is("the constructor", constructors[0].toString(), "public FarCells(int,int,int)");
        membersAreHidden(names);
        for (Class<?> inside : FarCells.class.getDeclaredClasses()) {
            if (!Modifier.isStatic(inside.getModifiers()) || Modifier.isPublic(inside.getModifiers())) {
                due.tell(inside + " is not a hidden static class");
            }
            staticFieldsAreFinal(inside);
            for (Method m : inside.getDeclaredMethods()) {
                due.is(m + " bears a name of the face", names.contains(m.getName()) ? 1 : 0, 0);
            }
        }
        staticFieldsAreFinal(FarCells.class);
        due.end();
    }

    private static String textOf(Method m) {
        StringBuilder text = new StringBuilder(m.getReturnType().getSimpleName() + " " + m.getName() + "(");
        String between = "";
        for (Class<?> p : m.getParameterTypes()) {
            text.append(between).append(p.getSimpleName());
            between = ", ";
        }
        text.append(")");
        between = " throws ";
        for (Class<?> e : m.getExceptionTypes()) {
            text.append(between).append(e.getSimpleName());
            between = " ";
        }
        return text.toString();
    }

    private static void membersAreHidden(Set<String> names) {
        for (Field f : FarCells.class.getDeclaredFields()) {
            due.is(f + " is private", Modifier.isPrivate(f.getModifiers()) ? 1 : 0, 1);
        }
        for (Method m : FarCells.class.getDeclaredMethods()) {
            if (!Modifier.isPublic(m.getModifiers())) {
                due.is(m + " is private", Modifier.isPrivate(m.getModifiers()) ? 1 : 0, 1);
                due.is(m + " bears a name of the face", names.contains(m.getName()) ? 1 : 0, 0);
            }
        }
    }

    private static void staticFieldsAreFinal(Class<?> c) {
        for (Field f : c.getDeclaredFields()) {
            if (Modifier.isStatic(f.getModifiers()) && !Modifier.isFinal(f.getModifiers())) {
                due.tell(f + " is static and not final");
            }
        }
    }
}
