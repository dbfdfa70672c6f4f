import java.lang.reflect.Executable;
import java.lang.reflect.Field;
import java.lang.reflect.Member;
import java.lang.reflect.Method;
import java.lang.reflect.Modifier;
import java.util.Arrays;
import java.util.Set;
import java.util.TreeSet;

/** The public face: just what the document lists, and all else private and under other names. */
public final class FaceTest {
    private static final Set<String> FACE = Set.of(
        "int input() throws IllegalStateException",
        "int and(int, int) throws IllegalArgumentException, IllegalStateException",
        "int join(int, int, int) throws IllegalArgumentException, IllegalStateException",
        "int three(int, int, int, int) throws IllegalArgumentException, IllegalStateException",
        "boolean set(int, boolean) throws IllegalArgumentException",
        "boolean value(int) throws IllegalArgumentException",
        "int node(int, int) throws IllegalArgumentException",
        "int cone(int) throws IllegalArgumentException",
        "boolean below(int, int) throws IllegalArgumentException",
        "int depth(int) throws IllegalArgumentException",
        "int nodes()",
        "int inputs()");

    public static void main(String[] args) {
        Checks.sentence("the public face");
        Class<GateBench> face = GateBench.class;
        Checks.due("modifiers of the class", Modifier.PUBLIC | Modifier.FINAL, face::getModifiers);
        Set<String> told = new TreeSet<>();
        Set<String> names = new TreeSet<>();
        for (Method method : face.getDeclaredMethods()) {
            if (isOpen(method)) {
                told.add(method.getReturnType() + " " + method.getName() + signature(method));
                names.add(method.getName());
            }
        }
        Checks.due("open methods", new TreeSet<>(FACE), () -> told);
        for (Method method : face.getDeclaredMethods()) {
            Checks.due("private name " + method.getName(), false, () -> !isOpen(method) && names.contains(method.getName()));
        }
        for (Field field : face.getDeclaredFields()) {
            Checks.due("open field " + field.getName(), field.getName().equals("NONE"), () -> isOpen(field));
            Checks.due("static field " + field.getName() + " that is not final", false,
                () -> Modifier.isStatic(field.getModifiers()) && !Modifier.isFinal(field.getModifiers()));
        }
        Checks.due("constructors", "[()]",
            () -> Arrays.stream(face.getDeclaredConstructors()).filter(FaceTest::isOpen).map(FaceTest::signature).toList().toString());
        Checks.end();
    }

    private static boolean isOpen(Member member) {
        return !Modifier.isPrivate(member.getModifiers());
    }

    private static String signature(Executable made) {
        String thrown = names(made.getExceptionTypes());
        return "(" + names(made.getParameterTypes()) + ")" + (thrown.isEmpty() ? "" : " throws " + thrown);
    }

    private static String names(Class<?>[] types) {
        return String.join(", ", Arrays.stream(types).map(Class::getSimpleName).toList());
    }
}
