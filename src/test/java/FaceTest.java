import java.lang.reflect.Constructor;
import java.lang.reflect.Field;
import java.lang.reflect.Method;
import java.lang.reflect.Modifier;
import java.util.Arrays;
import java.util.List;
import java.util.Set;
import java.util.TreeSet;

/** The face of the class: all members of the document, and no other one that can be seen from outside. */
final class FaceTest {
    private static final List<String> METHODS = List.of(
        "int set(int,int)", "int dial()", "int read(int,int,int)", "int pass(int)", "int agree()", "int of(int,int)",
        "int best(int)", "int end(int,int)", "int overlap(int)", "int count(int)", "long mean()", "int share()",
        "int allowing(int,int)", "int fewest()", "int widerIn(int)", "int without(int)", "int put(long)", "int wipe()",
        "int fault()", "int carryOut()", "int undo()", "int save(int)", "int restore(int)");
    private static final List<String> CONSTANTS = List.of(
        "NO_SUCH=-1", "BAD_VALUE=-2", "BAD_TEXT=-3", "TOO_MANY=-4", "NOT_POSSIBLE=-5", "NONE=-6", "WIDEN=0", "OFTEN=1");

    private final Check check = new Check("face");

    public static void main(String[] args) throws IllegalAccessException {
        FaceTest test = new FaceTest();
        test.face();
        test.privateNames(SundialSpans.class);
        for (Class<?> inner : SundialSpans.class.getDeclaredClasses()) {
            test.check.holds(inner + " is static", Modifier.isStatic(inner.getModifiers()));
            test.check.holds(inner + " is not public", !Modifier.isPublic(inner.getModifiers()));
            test.privateNames(inner);
            test.staticFields(inner);
        }
        test.staticFields(SundialSpans.class);
        test.check.end();
    }

    private void face() throws IllegalAccessException {
        Class<?> face = SundialSpans.class;
        check.holds("the class is public and final", face.getModifiers() == (Modifier.PUBLIC | Modifier.FINAL));
        check.due("constructors", face.getDeclaredConstructors().length, 1);
        for (Constructor<?> constructor : face.getDeclaredConstructors()) {
            check.holds("the constructor", Modifier.isPublic(constructor.getModifiers()) && constructor.getParameterCount() == 0);
        }
        Set<String> methods = new TreeSet<>();
        for (Method method : face.getDeclaredMethods()) {
            if (!Modifier.isPrivate(method.getModifiers())) {
                check.due("modifiers of " + method, method.getModifiers(), Modifier.PUBLIC);
                methods.add(signature(method));
            }
        }
        same("methods", methods, METHODS);
        Set<String> constants = new TreeSet<>();
        for (Field field : face.getDeclaredFields()) {
            if (!Modifier.isPrivate(field.getModifiers())) {
                check.due("modifiers of " + field, field.getModifiers(), Modifier.PUBLIC | Modifier.STATIC | Modifier.FINAL);
                constants.add(field.getName() + "=" + field.getInt(null));
            }
        }
        same("constants", constants, CONSTANTS);
    }

    private static String signature(Method method) {
        String types = Arrays.toString(method.getParameterTypes()).replace(" ", "");
        return method.getReturnType() + " " + method.getName() + "(" + types.substring(1, types.length() - 1) + ")";
    }

    private void same(String what, Set<String> found, List<String> wanted) {
        Set<String> sorted = new TreeSet<>(wanted);
        if (!found.equals(sorted)) {
            System.out.println("face: " + what + " are " + found + ", due are " + sorted);
        }
        check.holds(what + " as the document lists them", found.equals(sorted));
    }

    private void privateNames(Class<?> owner) {
        for (Method method : owner.getDeclaredMethods()) {
            boolean isFace = owner == SundialSpans.class && Modifier.isPublic(method.getModifiers());
            boolean hasName = METHODS.stream().anyMatch(wanted -> wanted.contains(" " + method.getName() + "("));
            check.holds(method + " has a name of its own", isFace || !hasName);
            check.holds(method + " takes at most seven parameters", method.getParameterCount() <= 7);
        }
    }

    private void staticFields(Class<?> owner) {
        int fields = 0;
        for (Field field : owner.getDeclaredFields()) {
            if (!Modifier.isStatic(field.getModifiers())) {
                fields++;
                continue;
            }
            Class<?> type = field.getType();
            check.holds(field + " is final", Modifier.isFinal(field.getModifiers()));
            check.holds(field + " is of a type for constants",
                type == int.class || type == long.class || type == boolean.class || type == char.class || type == String.class);
        }
        check.holds(owner + " has at most 20 fields", fields <= 20);
    }
}
