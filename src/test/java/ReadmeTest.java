import java.io.IOException;
import java.lang.reflect.Method;
import java.lang.reflect.Modifier;
import java.nio.file.Files;
import java.nio.file.Path;
import java.util.HashSet;
import java.util.Set;
import java.util.regex.Matcher;
import java.util.regex.Pattern;

/** README.md: each call of its examples answers what the remark behind it begins with, and no call is left out. */
public final class ReadmeTest {
    private static final Checks CHECKS = new Checks();
    private static final Pattern CALL = Pattern.compile("engine\\.(\\w+)\\((.*)\\); +// (.*)");
    private static final Pattern ANSWER = Pattern.compile("(-?\\d+|throws \\w+)\\b.*");
    private static final String NOTHING = "nothing";

    private static final Set<String> called = new HashSet<>();
    private static CountedEngine engine;

    public static void main(String[] args) throws IOException {
        boolean inExample = false;
        for (String line : Files.readAllLines(Path.of("README.md"))) {
            if (line.startsWith("```")) {
                inExample = line.equals("```java");
            } else if (inExample) {
                dueLine(line);
            }
        }
        dueEveryMethod();
        CHECKS.end();
    }

    private static void dueLine(String line) {
        CHECKS.sentence(line);
        Matcher call = CALL.matcher(line);
        if (line.equals("FusedEngine engine = new FusedEngine();")) {
            engine = new CountedEngine();
        } else if (call.matches()) {
            Matcher answer = ANSWER.matcher(call.group(3));
            dueAnswer(call.group(1), call.group(2), answer.matches() ? answer.group(1) : NOTHING);
        } else {
            CHECKS.fail("not a call with a remark behind it");
        }
    }

    private static void dueAnswer(String name, String arguments, String want) {
        called.add(name);
        String got;
        try {
            got = answerOf(name, numbersOf(arguments));
        } catch (RuntimeException e) {
            got = "throws " + e.getClass().getSimpleName();
        }
        if (!got.equals(want)) {
            CHECKS.fail("answered " + got + ", the remark says " + want);
        }
    }

    private static int[] numbersOf(String arguments) {
        String[] words = arguments.isEmpty() ? new String[0] : arguments.split(", ");
        int[] numbers = new int[words.length];
        for (int k = 0; k < words.length; k++) {
            numbers[k] = numberOf(words[k]);
        }
        return numbers;
    }

    private static int numberOf(String word) {
        switch (word) {
            case "true":
                return 1;
            case "false":
                return 0;
            default:
                return word.charAt(0) == '\'' ? word.charAt(1) : Integer.parseInt(word);
        }
    }

    private static String answerOf(String name, int[] given) {
        switch (name) {
            case "change":
                engine.change(given[0], given[1], given[2]);
                return NOTHING;
            case "clear":
                engine.clear();
                return NOTHING;
            case "restart":
                engine.restart();
                return NOTHING;
            case "fuse":
                return "" + engine.fuse();
            case "add":
                return "" + engine.add(given[0], given[1]);
            case "look":
                return "" + engine.look(given[0], given[1]);
            case "run":
                return "" + engine.run(given[0] == 1, given[1]);
            case "about":
                return "" + engine.about(given[0] == 1, given[1]);
            case "stack":
                return "" + engine.stack(given[0] == 1, given[1]);
            case "local":
                return "" + engine.local(given[0] == 1, given[1]);
            case "out":
                return "" + engine.out(given[0] == 1, given[1]);
            default:
                return "no such method";
        }
    }

    private static void dueEveryMethod() {
        CHECKS.sentence("how to make an object and use each method of the class");
        for (Method method : FusedEngine.class.getDeclaredMethods()) {
            if (Modifier.isPublic(method.getModifiers()) && !called.contains(method.getName())) {
                CHECKS.fail("no example calls " + method.getName());
            }
        }
        CHECKS.due("an object is made", engine == null ? 0 : 1, 1);
    }
}
