import java.lang.reflect.Constructor;
import java.lang.reflect.Executable;
import java.lang.reflect.Field;
import java.lang.reflect.Method;
import java.lang.reflect.Modifier;
import java.util.Set;
import java.util.TreeSet;

/** The class shows the document's face and nothing beside it. */
public final class FaceTests {
    private static final String INDEX = " throws IndexOutOfBoundsException";
    private static final String ARGUMENT = " throws IllegalArgumentException";
    private static final Set<String> FACE = Set.of(
            "int addNode() throws IllegalStateException",
            "int join(int, int)" + INDEX + " IllegalArgumentException IllegalStateException",
            "int part(int, int)" + INDEX + " IllegalArgumentException NoSuchElementException",
            "int isolate(int)" + INDEX,
            "int nodes()",
            "int edges()",
            "int degree(int)" + INDEX,
            "int neighbour(int, int)" + INDEX,
            "boolean areJoined(int, int)" + INDEX,
            "int core(int)" + INDEX,
            "int degeneracy()",
            "int coreSize(int)" + ARGUMENT,
            "int changes()",
            "int community(int, int)" + INDEX + " IllegalArgumentException",
            "int communities(int)" + ARGUMENT,
            "int together(int, int)" + INDEX + " NoSuchElementException",
            "int hierarchy()",
            "int peeled(int)" + INDEX,
            "int denseSize()",
            "boolean isDense(int)" + INDEX,
            "double density()",
            "int support(int, int)" + INDEX + " NoSuchElementException",
            "int triangles()",
            "int truss(int, int)" + INDEX + " NoSuchElementException",
            "int trussSize(int)" + ARGUMENT);

    public static void main(String[] args) {
        Check check = new Check();
        check.due("the class's modifiers", Modifier.PUBLIC | Modifier.FINAL,
                () -> Corebarn.class.getModifiers());
        check.due("the methods that are not private", new TreeSet<>(FACE), () -> openMethods());
        check.due("the constructors", Set.of("Corebarn()"), () -> constructors());
        check.due("the fields that are not private", Set.of(), () -> openFields());
        check.due("private methods with a public name", Set.of(), () -> doubleNames());
        check.close("FaceTests");
    }

    private static Set<String> openMethods() {
        Set<String> found = new TreeSet<>();
        for (Method method : Corebarn.class.getDeclaredMethods()) {
            if (!Modifier.isPrivate(method.getModifiers())) {
                found.add(method.getReturnType() + " " + method.getName() + signature(method));
            }
        }
        return found;
    }

    private static Set<String> constructors() {
        Set<String> found = new TreeSet<>();
        for (Constructor<?> constructor : Corebarn.class.getDeclaredConstructors()) {
            found.add(constructor.getName() + signature(constructor));
        }
        return found;
    }

    private static String signature(Executable call) {
        StringBuilder text = new StringBuilder("(");
        for (Class<?> type : call.getParameterTypes()) {
            text.append(text.length() > 1 ? ", " : "").append(type);
        }
        text.append(")").append(call.getExceptionTypes().length > 0 ? " throws" : "");
        for (Class<?> type : call.getExceptionTypes()) {
            text.append(" ").append(type.getSimpleName());
        }
        return text.toString();
    }

    private static Set<String> openFields() {
        Set<String> found = new TreeSet<>();
        for (Field field : Corebarn.class.getDeclaredFields()) {
            if (!Modifier.isPrivate(field.getModifiers())) {
                found.add(field.getName());
            }
        }
        return found;
    }

    private static Set<String> doubleNames() {
        Set<String> open = new TreeSet<>();
        Set<String> both = new TreeSet<>();
        for (Method method : Corebarn.class.getMethods()) {
            open.add(method.getName());
        }
        for (Method method : Corebarn.class.getDeclaredMethods()) {
            if (Modifier.isPrivate(method.getModifiers()) && open.contains(method.getName())) {
                both.add(method.getName());
            }
        }
        return both;
    }
}
