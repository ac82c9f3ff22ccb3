import java.lang.reflect.Constructor;
import java.lang.reflect.Field;
import java.lang.reflect.Method;
import java.lang.reflect.Modifier;
import java.util.Set;
import java.util.TreeSet;

/** The public face: just the members that the document has, all others private (rule 1 of LANGUAGE.md). */
public final class FaceTest {
    private static final Checks CHECKS = new Checks();
    private static final Set<String> WANTED = Set.of(
        "final int NONE", "FusedEngine()",
        "int add(int,int)", "void change(int,int,int)", "void clear()", "int fuse()", "int look(int,int)",
        "int run(boolean,int)", "void restart()", "int about(boolean,int)", "int stack(boolean,int)",
        "int local(boolean,int)", "int out(boolean,int)");

    public static void main(String[] args) {
        Set<String> found = new TreeSet<>();
        Set<String> privateNames = new TreeSet<>();
        for (Method method : FusedEngine.class.getDeclaredMethods()) {
            if (Modifier.isPrivate(method.getModifiers())) {
                privateNames.add(method.getName());
            } else {
                found.add(method.getReturnType() + " " + method.getName() + typesOf(method.getParameterTypes()));
            }
        }
        for (Constructor<?> constructor : FusedEngine.class.getDeclaredConstructors()) {
            found.add("FusedEngine" + typesOf(constructor.getParameterTypes()));
        }
        for (Field field : FusedEngine.class.getDeclaredFields()) {
            if (!Modifier.isPrivate(field.getModifiers())) {
                String kind = Modifier.isFinal(field.getModifiers()) ? "final " : "";
                found.add(kind + field.getType() + " " + field.getName());
            }
        }
        if (!found.equals(WANTED)) {
            CHECKS.fail("the face is " + found + ", due is " + new TreeSet<>(WANTED));
        }
        for (String name : privateNames) {
            if (WANTED.stream().anyMatch(member -> member.contains(" " + name + "("))) {
                CHECKS.fail("a private method bears the name " + name);
            }
        }
        CHECKS.due("final", Modifier.isFinal(FusedEngine.class.getModifiers()) ? 1 : 0, 1);
        for (Class<?> inside : FusedEngine.class.getDeclaredClasses()) {
            int modifiers = inside.getModifiers();
            boolean open = Modifier.isPublic(modifiers) || Modifier.isProtected(modifiers);
            CHECKS.due(inside.getName() + " is open", open ? 1 : 0, 0);
        }
        CHECKS.end();
    }

    private static String typesOf(Class<?>[] types) {
        StringBuilder text = new StringBuilder("(");
        for (Class<?> type : types) {
            text.append(text.length() > 1 ? "," : "").append(type);
        }
        return text.append(")").toString();
    }
}
