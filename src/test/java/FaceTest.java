import java.lang.reflect.Constructor;
import java.lang.reflect.Field;
import java.lang.reflect.Method;
import java.lang.reflect.Modifier;
import java.nio.file.Files;
import java.nio.file.Path;
import java.util.ArrayList;
import java.util.List;
import java.util.TreeSet;

/** The class's face is the document's, word for word, and nothing else of it can be seen. */
public final class FaceTest {
    private static final Check check = new Check();

    public static void main(String[] args) throws Exception {
        List<String> due = dueLines();
        check.same("lines of the face", due.size(), 37);
        String source = Files.readString(Path.of("src/main/java/Roadgame.java"));
        for (String line : due) {
            String open = line.substring(0, line.length() - 1) + " {";
            check.holds("the face has: " + line, source.contains("    " + open + "\n"));
        }
        hidden(due);
        check.end("FaceTest");
    }

    private static List<String> dueLines() throws Exception {
        List<String> found = new ArrayList<>();
        for (String line : Files.readAllLines(Path.of("../shared/DOC.md"))) {
            String text = line.trim();
            if (text.startsWith("public ") && text.endsWith(";")) {
                found.add(text);
            }
        }
        return found;
    }

    private static void hidden(List<String> due) {
        check.holds("public final", Modifier.isPublic(Roadgame.class.getModifiers())
            && Modifier.isFinal(Roadgame.class.getModifiers()));
        int shown = 0;
        TreeSet<String> names = new TreeSet<>();
        for (Method method : Roadgame.class.getDeclaredMethods()) {
            if (Modifier.isPublic(method.getModifiers())) {
                shown++;
                names.add(method.getName());
            } else {
                check.holds(method + " is private", Modifier.isPrivate(method.getModifiers()) || method.isSynthetic());
            }
        }
        for (Method method : Roadgame.class.getDeclaredMethods()) {
            if (!Modifier.isPublic(method.getModifiers())) {
                check.fails(method + " bears a public name", names.contains(method.getName()));
            }
        }
        for (Constructor<?> constructor : Roadgame.class.getDeclaredConstructors()) {
            check.holds("the constructor is public", Modifier.isPublic(constructor.getModifiers()));
            shown++;
        }
        check.same("members that can be seen", shown, due.size());
        for (Field field : Roadgame.class.getDeclaredFields()) {
            check.holds(field + " is private", Modifier.isPrivate(field.getModifiers()));
        }
        for (Class<?> inside : Roadgame.class.getDeclaredClasses()) {
            check.holds(inside + " is static", Modifier.isStatic(inside.getModifiers()));
            for (Method method : inside.getDeclaredMethods()) {
                check.fails(method + " bears a public name", names.contains(method.getName()));
            }
        }
    }
}
