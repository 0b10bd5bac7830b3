import java.nio.file.Files;
import java.nio.file.Path;
import java.util.List;
import java.util.regex.Matcher;
import java.util.regex.Pattern;

/** Those rules of LANGUAGE.md that can be read off the source's words. */
public final class LanguageTest {
    private static final Check check = new Check();

    public static void main(String[] args) throws Exception {
        List<String> lines = Files.readAllLines(Path.of("src/main/java/Roadgame.java"));
        StringBuilder code = new StringBuilder();
        boolean comment = false;
        for (String line : lines) {
            String text = line.trim();
            comment |= text.startsWith("/*");
            if (!comment && !text.startsWith("//")) {
                code.append(line).append('\n');
            }
            comment &= !text.contains("*/");
        }
        forbidden(code.toString());
        methods(code.toString());
        check.end("LanguageTest");
    }

    private static void forbidden(String code) {
        String[] words = {
            "\\bpackage\\b", "\\bfinally\\b", "\\bassert\\b", "\\bsynchronized\\b", "->", "::", "static \\{",
            "\\bprotected\\b", "Exact", "\\bhashCode\\b", "\"\\s*\\+", "\\+\\s*\"", "\\bThread\\b", "\\bRandom\\b",
            "catch \\((Array|NullPointer|Arithmetic|ClassCast|NegativeArray|Runtime|Exception|Throwable|Error)",
        };
        for (String word : words) {
            check.fails("the source has " + word, Pattern.compile(word).matcher(code).find());
        }
        for (int k = 0; k < code.length(); k++) {
            if (code.charAt(k) > 126) {
                check.fails("a sign beyond 126 at " + k, true);
            }
        }
        Matcher thrown = Pattern.compile("throw new (\\w+)\\(\"[^\"]*\"\\);").matcher(code);
        int met = 0;
        while (thrown.find()) {
            met++;
            check.holds("throws " + thrown.group(1), thrown.group(1).equals("IndexOutOfBoundsException")
                || thrown.group(1).equals("IllegalArgumentException"));
        }
        check.same("each throw is of a written text", met, code.split("\\bthrow\\b", -1).length - 1);
    }

    private static void methods(String code) {
        Pattern head = Pattern.compile("^( {4}| {8})(?! |if|for|switch|else|return)[\\w\\[\\] ]+\\(([^)]*)\\)[\\w, ]*\\{$");
        String[] lines = code.split("\n");
        int met = 0;
        for (int k = 0; k < lines.length; k++) {
            Matcher at = head.matcher(lines[k]);
            if (!at.matches()) {
                continue;
            }
            met++;
            check.holds("parameters of " + lines[k].trim(), at.group(2).split(",").length <= 7);
            int end = k;
            while (end < lines.length && !lines[end].equals(at.group(1) + "}")) {
                end++;
            }
            check.holds("length of " + lines[k].trim(), end - k <= 60);
        }
        check.holds("methods were met: " + met, met >= 60);
    }
}
