import java.lang.reflect.Constructor;
import java.lang.reflect.Field;
import java.lang.reflect.Method;
import java.lang.reflect.Modifier;
import java.util.Arrays;
import java.util.List;
import java.util.Set;
import java.util.TreeSet;
import java.util.stream.Collectors;

/** The public face, row by row: just the members that the document has (and rule 1 of LANGUAGE.md). */
public final class FaceTest {
    private static final Checks CHECKS = new Checks();
    private static final List<String> FACE = List.of(
        "public static final int NONE",
        "public FusedEngine()",
        "public int add(int, int) throws IllegalArgumentException, IllegalStateException",
        "public void change(int, int, int) throws NoSuchElementException, IllegalArgumentException",
        "public void clear()",
        "public int fuse()",
        "public int look(int, int) throws NoSuchElementException",
        "public int run(boolean, int) throws IllegalStateException",
        "public void restart()",
        "public int about(boolean, int)",
        "public int stack(boolean, int) throws NoSuchElementException",
        "public int local(boolean, int) throws NoSuchElementException",
        "public int out(boolean, int) throws NoSuchElementException");

    public static void main(String[] args) {
        theClass();
        everyRow();
        privateNames();
        classesInside();
        CHECKS.end();
    }

    private static void theClass() {
        CHECKS.sentence("public final class FusedEngine");
        dueText("the class", Modifier.toString(FusedEngine.class.getModifiers()), "public final");
        dueText("its name, without a package", FusedEngine.class.getName(), "FusedEngine");
        dueText("what it extends", FusedEngine.class.getSuperclass().getName(), "java.lang.Object");
        CHECKS.due("what it implements", FusedEngine.class.getInterfaces().length, 0);
        CHECKS.sentence("public static final int NONE = -1;");
        CHECKS.due("NONE", FusedEngine.NONE, -1);
    }

    private static void everyRow() {
        Set<String> found = membersThatAreSeen();
        for (String row : FACE) {
            CHECKS.sentence(row);
            CHECKS.due("is there", found.remove(row) ? 1 : 0, 1);
        }
        CHECKS.sentence("The public face");
        dueText("other members that are seen", found.toString(), "[]");
    }

    private static Set<String> membersThatAreSeen() {
        Set<String> found = new TreeSet<>();
        for (Field field : FusedEngine.class.getDeclaredFields()) {
            if (!Modifier.isPrivate(field.getModifiers())) {
                found.add(Modifier.toString(field.getModifiers()) + " " + field.getType() + " " + field.getName());
            }
        }
        for (Constructor<?> one : FusedEngine.class.getDeclaredConstructors()) {
            found.add(Modifier.toString(one.getModifiers()) + " " + one.getName() + namesOf("(", one.getParameterTypes(), ")")
                + thrown(one.getExceptionTypes()));
        }
        for (Method one : FusedEngine.class.getDeclaredMethods()) {
            if (!Modifier.isPrivate(one.getModifiers())) {
                found.add(Modifier.toString(one.getModifiers()) + " " + one.getReturnType() + " " + one.getName()
                    + namesOf("(", one.getParameterTypes(), ")") + thrown(one.getExceptionTypes()));
            }
        }
        return found;
    }

    private static String thrown(Class<?>[] types) {
        return types.length == 0 ? "" : namesOf(" throws ", types, "");
    }

    private static String namesOf(String before, Class<?>[] types, String behind) {
        return Arrays.stream(types).map(Class::getSimpleName).collect(Collectors.joining(", ", before, behind));
    }

    private static void privateNames() {
        CHECKS.sentence("No private method bears the name of a public one.");
        for (Method method : FusedEngine.class.getDeclaredMethods()) {
            boolean taken = FACE.stream().anyMatch(row -> row.contains(" " + method.getName() + "("));
            CHECKS.due(method + " is private", Modifier.isPrivate(method.getModifiers()) && taken ? 1 : 0, 0);
        }
    }

    private static void classesInside() {
        CHECKS.sentence("the classes inside it, which are private or package-visible and static");
        for (Class<?> inside : FusedEngine.class.getDeclaredClasses()) {
            int modifiers = inside.getModifiers();
            boolean open = Modifier.isPublic(modifiers) || Modifier.isProtected(modifiers);
            CHECKS.due(inside.getName() + " is open", open ? 1 : 0, 0);
            CHECKS.due(inside.getName() + " is static", Modifier.isStatic(modifiers) ? 1 : 0, 1);
        }
    }

    private static void dueText(String what, String got, String want) {
        if (!got.equals(want)) {
            CHECKS.fail(what + " is " + got + ", due is " + want);
        }
    }
}
