import java.lang.reflect.Constructor;
import java.lang.reflect.Field;
import java.lang.reflect.Method;
import java.lang.reflect.Modifier;
import java.util.Set;
import java.util.TreeSet;

/** The document's face, and nothing beside it that can be seen from outside. */
public final class FaceTest {
    private static final Set<String> FACE = Set.of(
        "int addRow(int, int, int, int)", "boolean begin(int, int, int)", "int bag(long)", "void even()",
        "int weight(int)", "int grow(int)", "int kind(int)", "int rule(int, int)", "int threshold(int, int)",
        "long gain(int)", "int rowsOf(int)", "int classOf(int)", "int error(int)", "int reach(int, int, int)",
        "int cut(int, int)", "int breakAt(int)", "int tally()", "int votes(int, int)", "int wrong()");

    public static void main(String[] args) throws ReflectiveOperationException {
        Class<SurrogateTree> type = SurrogateTree.class;
        Check.isTrue("the class is public and final",
            Modifier.isPublic(type.getModifiers()) && Modifier.isFinal(type.getModifiers()));
        methods(type);
        fields(type);
        Constructor<?>[] constructors = type.getDeclaredConstructors();
        Check.same("constructors", constructors.length, 1);
        Check.isTrue("the constructor is public", Modifier.isPublic(constructors[0].getModifiers()));
        Check.same("its parameters", constructors[0].getParameterCount(), 0);
        for (Class<?> inside : type.getDeclaredClasses()) {
            Check.isTrue(inside + " is static", Modifier.isStatic(inside.getModifiers()));
        }
        Check.end();
    }

    private static void methods(Class<?> type) {
        Set<String> names = new TreeSet<>();
        Set<String> seen = new TreeSet<>();
        for (Method m : type.getDeclaredMethods()) {
            if (!Modifier.isPrivate(m.getModifiers())) {
                seen.add(signature(m));
                names.add(m.getName());
            }
        }
        Check.isTrue("the visible methods are the document's: " + seen, seen.equals(new TreeSet<>(FACE)));
        for (Method m : type.getDeclaredMethods()) {
            Check.isTrue("no private method has a public one's name: " + m,
                !Modifier.isPrivate(m.getModifiers()) || !names.contains(m.getName()));
        }
    }

    private static String signature(Method m) {
        StringBuilder text = new StringBuilder();
        for (Class<?> p : m.getParameterTypes()) {
            text.append(text.length() == 0 ? "" : ", ").append(p.getName());
        }
        return m.getReturnType().getName() + " " + m.getName() + "(" + text + ")";
    }

    private static void fields(Class<?> type) throws ReflectiveOperationException {
        for (Field f : type.getDeclaredFields()) {
            if (f.getName().equals("MISSING")) {
                int wanted = Modifier.PUBLIC | Modifier.STATIC | Modifier.FINAL;
                Check.same("MISSING is public, static and final", f.getModifiers(), wanted);
                Check.same("MISSING", f.getInt(null), -2147483648L);
            } else {
                Check.isTrue(f + " is private", Modifier.isPrivate(f.getModifiers()));
                Check.isTrue(f + " is no static state",
                    !Modifier.isStatic(f.getModifiers()) || Modifier.isFinal(f.getModifiers()));
            }
        }
    }
}
