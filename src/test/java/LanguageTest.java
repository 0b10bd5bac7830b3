import java.nio.file.Files;
import java.nio.file.Path;
import java.util.Arrays;
import java.util.HashMap;
import java.util.List;
import java.util.Map;
import java.util.TreeMap;
import java.util.regex.Matcher;
import java.util.regex.Pattern;

/** Those rules of LANGUAGE.md that can be read off the source's words. */
public final class LanguageTest {
    private static final Check check = new Check();

    public static void main(String[] args) throws Exception {
        List<String> lines = Files.readAllLines(Path.of("src/main/java/Roadgame.java"));
        StringBuilder code = new StringBuilder();
        boolean comment = false;
        for (String line : lines) {
            String text = line.trim();
            comment |= text.startsWith("/*");
            if (!comment && !text.startsWith("//")) {
                code.append(line).append('\n');
            }
            comment &= !text.contains("*/");
        }
        forbidden(code.toString());
        methods(code.toString());
        check.end("LanguageTest");
    }

    private static void forbidden(String code) {
        String[] words = {
            "\\bpackage\\b", "\\bfinally\\b", "\\bassert\\b", "\\bsynchronized\\b", "->", "::", "static \\{",
            "\\bprotected\\b", "Exact", "\\bhashCode\\b", "\"\\s*\\+", "\\+\\s*\"", "\\bThread\\b", "\\bRandom\\b",
            "catch \\((Array|NullPointer|Arithmetic|ClassCast|NegativeArray|Runtime|Exception|Throwable|Error)",
        };
        for (String word : words) {
            check.fails("the source has " + word, Pattern.compile(word).matcher(code).find());
        }
        for (int k = 0; k < code.length(); k++) {
            if (code.charAt(k) > 126) {
                check.fails("a sign beyond 126 at " + k, true);
            }
        }
        Matcher thrown = Pattern.compile("throw new (\\w+)\\(\"[^\"]*\"\\);").matcher(code);
        int met = 0;
        while (thrown.find()) {
            met++;
            check.holds("throws " + thrown.group(1), thrown.group(1).equals("IndexOutOfBoundsException")
                || thrown.group(1).equals("IllegalArgumentException"));
        }
        check.same("each throw is of a written text", met, code.split("\\bthrow\\b", -1).length - 1);
    }

    private static void methods(String code) {
        Pattern head = Pattern.compile("^( {4}| {8})(?! |if|for|switch|else|return)[\\w\\[\\] ]*\\b(\\w+)\\(([^)]*)\\)[\\w, ]*\\{$");
        String[] lines = code.split("\n");
        Map<String, String> bodies = new TreeMap<>();
        for (int k = 0; k < lines.length; k++) {
            Matcher at = head.matcher(lines[k]);
            if (!at.matches()) {
                continue;
            }
            check.holds("parameters of " + lines[k].trim(), at.group(3).split(",").length <= 7);
            int end = k + 1;
            while (end < lines.length && !lines[end].equals(at.group(1) + "}")) {
                end++;
            }
            check.holds("length of " + lines[k].trim(), end - k <= 60);
            String body = String.join("\n", Arrays.copyOfRange(lines, k + 1, end));
            check.holds("no two methods are named " + at.group(2), bodies.put(at.group(2), body) == null);
        }
        check.holds("methods were met: " + bodies.size(), bodies.size() >= 60);
        depths(bodies);
        made(bodies);
    }

    /** As no two methods bear the same name, what a method calls can be read off the names. */
    private static void depths(Map<String, String> bodies) {
        Map<String, Integer> known = new HashMap<>();
        for (String name : bodies.keySet()) {
            int depth = depthOf(name, bodies, known, 0);
            check.holds("calls of " + name + " go " + depth + " deep", depth <= 8);
        }
        check.holds("calls were met: digest() goes through isSound() to what is won", known.get("digest") >= 5);
    }

    private static int depthOf(String name, Map<String, String> bodies, Map<String, Integer> known, int above) {
        if (known.containsKey(name) || above > bodies.size()) {
            check.holds(name + " does not call itself", above <= bodies.size());
            return known.getOrDefault(name, above);
        }
        int deepest = 0;
        Matcher called = Pattern.compile("(?<!new )\\b(\\w+)\\(").matcher(bodies.get(name));
        while (called.find()) {
            if (bodies.containsKey(called.group(1))) {
                deepest = Math.max(deepest, depthOf(called.group(1), bodies, known, above + 1));
            }
        }
        known.put(name, deepest + 1);
        return deepest + 1;
    }

    /** All calls of a run live in one room, so but for texts and exceptions only constructors make objects. */
    private static void made(Map<String, String> bodies) {
        for (String name : bodies.keySet()) {
            Matcher made = Pattern.compile("\\bnew (\\w+)").matcher(bodies.get(name));
            while (made.find()) {
                boolean text = made.group(1).equals("StringBuilder") && (name.equals("ways") || name.equals("play"));
                boolean let = text || name.equals("Roadgame") || name.equals("Chart") || made.group(1).endsWith("Exception");
                check.holds(name + " makes a " + made.group(1), let);
            }
        }
    }
}
