import java.lang.reflect.Constructor;
import java.lang.reflect.Field;
import java.lang.reflect.Method;
import java.lang.reflect.Modifier;
import java.util.Arrays;
import java.util.Map;
import java.util.TreeMap;

/** The public face of the class, held against the one that the document shows. */
public final class FaceTest extends Checks {
    /** As the document writes them, exceptions in its order. */
    private static final String[] FACE = {
        "int setDrift(int, int) throws IndexOutOfBoundsException, IllegalArgumentException",
        "int setRun(int, int) throws IndexOutOfBoundsException, IllegalArgumentException",
        "int buy(int, int) throws IndexOutOfBoundsException, IllegalArgumentException, IllegalStateException",
        "int make(int, int, int) throws IndexOutOfBoundsException, IllegalArgumentException, IllegalStateException",
        "int net(int, int) throws IndexOutOfBoundsException, IllegalArgumentException, IllegalStateException",
        "int send(int, int) throws IndexOutOfBoundsException",
        "int tar(int) throws IndexOutOfBoundsException, IllegalStateException",
        "int land(int) throws IndexOutOfBoundsException, IllegalStateException",
        "int about(int, int) throws IndexOutOfBoundsException",
        "int told(int, int) throws IndexOutOfBoundsException",
        "int reach(int, int) throws IndexOutOfBoundsException",
        "int count(int) throws IndexOutOfBoundsException",
        "int pass(int) throws IllegalArgumentException",
        "int meets(int) throws IndexOutOfBoundsException",
        "int sinks(int) throws IndexOutOfBoundsException",
        "int foresee(int, int) throws IllegalArgumentException, IndexOutOfBoundsException",
        "int advise(int, int) throws IndexOutOfBoundsException, IllegalArgumentException",
        "double mean()",
        "long digest()",
    };

    public static void main(String[] args) {
        theClass();
        constructors();
        methods();
        fields();
        end();
    }

    private static void theClass() {
        test("public final class CoracleMakers");
        isText("modifiers", Modifier.toString(CoracleMakers.class.getModifiers()), "public final");
        isText("name", CoracleMakers.class.getName(), "CoracleMakers");
        isText("superclass", CoracleMakers.class.getSuperclass().getName(), "java.lang.Object");
        is("interfaces", CoracleMakers.class.getInterfaces().length, 0);
    }

    private static void constructors() {
        test("public CoracleMakers();");
        Constructor<?>[] all = CoracleMakers.class.getDeclaredConstructors();
        is("constructors", all.length, 1);
        isText("constructor", all[0].toString(), "public CoracleMakers()");
    }

    private static void methods() {
        test("the methods of the public face, and no other that can be seen");
        Map<String, String> due = new TreeMap<>();
        for (String method : FACE) {
            due.put(method, "public");
        }
        Map<String, String> seen = new TreeMap<>();
        for (Method method : CoracleMakers.class.getDeclaredMethods()) {
            if (!Modifier.isPrivate(method.getModifiers())) {
                seen.put(headOf(method), Modifier.toString(method.getModifiers()));
            }
        }
        isText("methods", seen.toString(), due.toString());
    }

    private static String headOf(Method method) {
        String thrown = names(method.getExceptionTypes());
        return method.getReturnType().getSimpleName() + " " + method.getName()
                + "(" + names(method.getParameterTypes()) + ")" + (thrown.isEmpty() ? "" : " throws " + thrown);
    }

    private static String names(Class<?>[] types) {
        return String.join(", ", Arrays.stream(types).map(Class::getSimpleName).toArray(String[]::new));
    }

    private static void fields() {
        test("The public face has no constants.");
        for (Field field : CoracleMakers.class.getDeclaredFields()) {
            is(field.getName() + " private", Modifier.isPrivate(field.getModifiers()) ? 1 : 0, 1);
        }
    }
}
