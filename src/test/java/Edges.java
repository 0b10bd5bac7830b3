import java.io.IOException;
import java.nio.file.Path;
import java.util.List;
import java.util.Map;
import java.util.TreeSet;
import java.util.function.IntUnaryOperator;

/**
 * Tests by the sentences of the document. Each bears the words that it holds, which must stand in the
 * section it names, and must look at something.
 */
final class Edges {
    interface Call {
        void on(Roadgame game, int value);
    }

    /** From least to most of N a value is let, and no other. */
    record Range(int least, IntUnaryOperator most, Call call) {
    }

    private static final int[] SIZES = {2, 6, 12};
    private static final int PROMISES = 37;

    final Check check = new Check();
    private final Document document;
    private final TreeSet<String> tested = new TreeSet<>();

    Edges() throws IOException {
        document = new Document(Path.of("../shared/DOC.md"));
    }

    void test(int promise, String words, Runnable body) {
        test("Promise " + promise, words, body);
    }

    void test(String section, String words, Runnable body) {
        String name = section + ", \"" + words + "\"";
        check.under(name);
        check.holds("the document says so", document.says(section, words));
        check.holds("no other test bears these words", tested.add(section + ": " + Document.plain(words)));
        int before = check.looked();
        body.run();
        check.holds("something was looked at", check.looked() > before);
    }

    static Range place(Call call) {
        return new Range(0, many -> many - 1, call);
    }

    static Range set(Call call) {
        return new Range(0, many -> (1 << many) - 1, call);
    }

    static Range number(int least, int most, Call call) {
        return new Range(least, many -> most, call);
    }

    void outside(int promise, String condition, Range... ranges) {
        thrown(promise, IndexOutOfBoundsException.class, condition, ranges);
    }

    void illegal(int promise, String condition, Range... ranges) {
        thrown(promise, IllegalArgumentException.class, condition, ranges);
    }

    private void thrown(int promise, Class<?> due, String condition, Range... ranges) {
        test(promise, "Throws " + due.getSimpleName() + " if " + condition, () -> {
            for (int k = 0; k < ranges.length; k++) {
                for (int many : SIZES) {
                    bounds("value " + k + " of " + many + " places", due, many, ranges[k]);
                }
            }
        });
    }

    private void bounds(String where, Class<?> due, int many, Range range) {
        int most = range.most().applyAsInt(many);
        for (int value : new int[] {range.least(), most}) {
            Roadgame game = Maps.busy(many);
            String thrown = "";
            try {
                range.call().on(game, value);
            } catch (RuntimeException e) {
                thrown = e.toString();
            }
            check.same(where + ", " + value + " throws", thrown, "");
        }
        for (int value : new int[] {range.least() - 1, most + 1, Integer.MIN_VALUE, Integer.MAX_VALUE}) {
            Roadgame game = Maps.busy(many);
            check.refusedBy(game, where + ", " + value, due, () -> range.call().on(game, value));
        }
    }

    /** Each exception that the document names must have been tested, and each promise by some words. */
    void end(String name) {
        check.under("the document");
        for (Map.Entry<String, List<String>> section : document.thrown().entrySet()) {
            for (String sentence : section.getValue()) {
                String key = section.getKey() + ": " + sentence;
                check.holds("tested is " + key, tested.contains(key));
            }
        }
        for (int promise = 1; promise <= PROMISES; promise++) {
            String key = "Promise " + promise + ": ";
            check.holds("tested is something of promise " + promise,
                tested.ceiling(key) != null && tested.ceiling(key).startsWith(key));
        }
        check.end(name + ": " + tested.size() + " sentences");
    }
}
