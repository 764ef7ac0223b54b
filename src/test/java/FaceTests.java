import java.lang.reflect.Constructor;
import java.lang.reflect.Executable;
import java.lang.reflect.Field;
import java.lang.reflect.Method;
import java.lang.reflect.Modifier;
import java.util.Set;
import java.util.TreeSet;

/** The class shows the document's face and nothing beside it. */
public final class FaceTests {
    private static final String INDEX = " throws IndexOutOfBoundsException";
    private static final String ARGUMENT = " throws IllegalArgumentException";
    private static final Set<String> FACE = Set.of(
            "public int addNode() throws IllegalStateException",
            "public int join(int, int)" + INDEX + " IllegalArgumentException IllegalStateException",
            "public int part(int, int)" + INDEX + " IllegalArgumentException NoSuchElementException",
            "public int isolate(int)" + INDEX,
            "public int nodes()",
            "public int edges()",
            "public int degree(int)" + INDEX,
            "public int neighbour(int, int)" + INDEX,
            "public boolean areJoined(int, int)" + INDEX,
            "public int core(int)" + INDEX,
            "public int degeneracy()",
            "public int coreSize(int)" + ARGUMENT,
            "public int changes()",
            "public int community(int, int)" + INDEX + " IllegalArgumentException",
            "public int communities(int)" + ARGUMENT,
            "public int together(int, int)" + INDEX + " NoSuchElementException",
            "public int hierarchy()",
            "public int peeled(int)" + INDEX,
            "public int denseSize()",
            "public boolean isDense(int)" + INDEX,
            "public double density()",
            "public int support(int, int)" + INDEX + " NoSuchElementException",
            "public int triangles()",
            "public int truss(int, int)" + INDEX + " NoSuchElementException",
            "public int trussSize(int)" + ARGUMENT);

    public static void main(String[] args) {
        Check check = new Check();
        check.due("the class's modifiers", Modifier.PUBLIC | Modifier.FINAL,
                () -> Corebarn.class.getModifiers());
        check.due("the class above", Object.class, () -> Corebarn.class.getSuperclass());
        check.due("the interfaces", 0, () -> Corebarn.class.getInterfaces().length);
        check.due("the package", "", () -> Corebarn.class.getPackageName());
        check.due("the methods that are not private", new TreeSet<>(FACE), () -> openMethods());
        check.due("the constructors", Set.of("public Corebarn()"), () -> constructors());
        check.due("the fields that are not private", Set.of(), () -> openFields());
        check.due("private methods with a public name", Set.of(), () -> doubleNames());
        check.close("FaceTests");
    }

    private static Set<String> openMethods() {
        Set<String> found = new TreeSet<>();
        for (Method method : Corebarn.class.getDeclaredMethods()) {
            if (!Modifier.isPrivate(method.getModifiers())) {
                found.add(Modifier.toString(method.getModifiers()) + " " + method.getReturnType()
                        + " " + method.getName() + signature(method));
            }
        }
        return found;
    }

    private static Set<String> constructors() {
        Set<String> found = new TreeSet<>();
        for (Constructor<?> constructor : Corebarn.class.getDeclaredConstructors()) {
            found.add(Modifier.toString(constructor.getModifiers()) + " " + constructor.getName()
                    + signature(constructor));
        }
        return found;
    }

    private static String signature(Executable call) {
        StringBuilder text = new StringBuilder("(");
        for (Class<?> type : call.getParameterTypes()) {
            text.append(text.length() > 1 ? ", " : "").append(type);
        }
        text.append(")").append(call.getExceptionTypes().length > 0 ? " throws" : "");
        for (Class<?> type : call.getExceptionTypes()) {
            text.append(" ").append(type.getSimpleName());
        }
        return text.toString();
    }

    private static Set<String> openFields() {
        Set<String> found = new TreeSet<>();
        for (Field field : Corebarn.class.getDeclaredFields()) {
            if (!Modifier.isPrivate(field.getModifiers())) {
                found.add(field.getName());
            }
        }
        return found;
    }

    private static Set<String> doubleNames() {
        Set<String> open = new TreeSet<>();
        Set<String> both = new TreeSet<>();
        for (Method method : Corebarn.class.getMethods()) {
            open.add(method.getName());
        }
        for (Method method : Corebarn.class.getDeclaredMethods()) {
            if (Modifier.isPrivate(method.getModifiers()) && open.contains(method.getName())) {
                both.add(method.getName());
            }
        }
        return both;
    }
}
