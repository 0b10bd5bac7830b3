import java.io.File;
import java.lang.reflect.InvocationTargetException;
import java.lang.reflect.Method;
import java.lang.reflect.Modifier;
import java.nio.file.Files;
import java.nio.file.Path;
import java.util.List;
import java.util.regex.Matcher;
import java.util.regex.Pattern;

/** README.md's example answers as it says, and the page names each call and each test. */
public final class ReadmeTest {
    private static final Pattern CALL =
        Pattern.compile("game\\.(\\w+)\\(([\\d, ]*)\\); +// (?:throws (\\w+)|(-?\\d+|true|false|\"[^\"]*\"))(?::.*)?");
    private static final Check check = new Check();

    public static void main(String[] args) throws Exception {
        List<String> lines = Files.readAllLines(Path.of("README.md"));
        example(lines.subList(lines.indexOf("```java") + 1, lines.lastIndexOf("```")));
        String page = String.join("\n", lines);
        for (Method method : Roadgame.class.getDeclaredMethods()) {
            if (Modifier.isPublic(method.getModifiers())) {
                check.holds("README.md names " + method.getName(), page.contains("`" + method.getName() + "`"));
            }
        }
        File[] tests = new File("src/test/java").listFiles((folder, name) -> name.endsWith("Test.java"));
        check.holds("tests are there", tests != null && tests.length > 0);
        for (File test : tests) {
            String name = test.getName().replace(".java", "");
            check.holds("README.md tells of " + name, page.contains("\n- `" + name + "`: "));
        }
        check.end("ReadmeTest");
    }

    private static void example(List<String> calls) throws Exception {
        check.holds("it begins with a new object", calls.get(0).startsWith("Roadgame game = new Roadgame();"));
        Roadgame game = new Roadgame();
        for (String call : calls.subList(1, calls.size())) {
            Matcher words = CALL.matcher(call);
            boolean read = words.matches();
            check.holds("an answer is told: " + call, read);
            if (read) {
                String due = words.group(3) == null ? words.group(4) : words.group(3);
                check.same(call, answered(game, words.group(1), words.group(2)), due);
            }
        }
    }

    /** As README.md writes it: a text within signs, an exception by its name. */
    private static String answered(Roadgame game, String name, String listed) throws Exception {
        String[] words = listed.isEmpty() ? new String[0] : listed.split(", ");
        Object[] given = new Object[words.length];
        Class<?>[] kinds = new Class<?>[words.length];
        for (int k = 0; k < words.length; k++) {
            given[k] = Integer.parseInt(words[k]);
            kinds[k] = int.class;
        }
        try {
            Object answer = Roadgame.class.getMethod(name, kinds).invoke(game, given);
            return answer instanceof String ? "\"" + answer + "\"" : answer.toString();
        } catch (InvocationTargetException e) {
            return e.getCause().getClass().getSimpleName();
        }
    }
}
