import java.io.IOException;
import java.nio.file.Files;
import java.nio.file.Path;
import java.util.ArrayList;
import java.util.List;
import java.util.Map;
import java.util.Set;
import java.util.TreeMap;
import java.util.TreeSet;
import java.util.regex.Matcher;
import java.util.regex.Pattern;

/** What can be seen of LANGUAGE.md in the text of the class. */
public final class LanguageTest {
    private static final Path CLASS_FILE = Path.of("src/main/java/Stablingroad.java");
    private static final int LONGEST_METHOD = 60;
    private static final int DEEPEST_CALLS = 8;

    private static final String[] NOT_THERE = {
        "\\btry\\b", "\\bcatch\\b", "\\bfinally\\b", "\\bsynchronized\\b", "\\bassert\\b",
        "->", "::", "\\bpackage\\b", "\\bprotected\\b", "\\bvar\\b", "\\bfloat\\b", "\\bdouble\\b",
        "\\bequals\\b", "\\bhashCode\\b", "\\btoString\\b", "\"\\s*\\+", "\\+\\s*\"", "\\bwhile\\b",
        "\\w+Exact\\b", "\\bSystem\\.(?!arraycopy\\b)", "\\bThread\\b", "\\bRandom\\b", "\\bstatic\\s*\\{",
        "\\b(Array|Arithmetic|ClassCast|NegativeArray|NullPointer)\\w*Exception\\b"
    };
    private static final Set<String> IMPORTS = Set.of("java.util.ArrayList", "java.util.Arrays");
    private static final Set<String> THROWN = Set.of(
            "IllegalStateException", "IllegalArgumentException", "IndexOutOfBoundsException");

    private static final Check check = new Check();

    private LanguageTest() {}

    public static void main(String[] args) throws IOException {
        List<String> lines = Files.readAllLines(CLASS_FILE);
        String code = withoutComments(String.join("\n", lines));
        for (String pattern : NOT_THERE) {
            check.holds("there is " + pattern, !Pattern.compile(pattern).matcher(code).find());
        }
        all(code, "import ([\\w.]+);", IMPORTS);
        all(code, "throw new (\\w+)\\(\"[^\"]*\"\\);", THROWN);
        check.same("every throw makes its exception",
                count(code, "\\bthrow\\b"), count(code, "throw new \\w+\\(\"[^\"]*\"\\);"));
        check.same("one class outside", count(code, "(?m)^\\S.*\\b(class|interface|enum|record)\\b"), 1);
        for (String line : lines) {
            check.holds("plain signs: " + line, line.matches("[\\x20-\\x7e]*"));
        }
        List<Block> blocks = blocksOf(lines);
        methodLengths(blocks);
        callDepths(blocks);
        check.end("LanguageTest");
    }

    private static String withoutComments(String code) {
        return code.replaceAll("(?s)/\\*.*?\\*/", "").replaceAll("//[^\n]*", "");
    }

    private static int count(String code, String pattern) {
        Matcher matcher = Pattern.compile(pattern).matcher(code);
        int count = 0;
        while (matcher.find()) {
            count++;
        }
        return count;
    }

    private static void all(String code, String pattern, Set<String> allowed) {
        Matcher matcher = Pattern.compile(pattern).matcher(code);
        while (matcher.find()) {
            check.holds(matcher.group(), allowed.contains(matcher.group(1)));
        }
    }

    /** A method or constructor, from its opening line to the brace of the same depth. */
    private record Block(String name, String head, List<String> lines) {}

    private static List<Block> blocksOf(List<String> lines) {
        Pattern opening = Pattern.compile("( {4}| {8})(?=\\w)[\\w<>\\[\\] ]*?(\\w+)\\(.*");
        List<Block> blocks = new ArrayList<>();
        for (int i = 0; i < lines.size(); i++) {
            Matcher matcher = opening.matcher(lines.get(i));
            if (matcher.matches() && !lines.get(i).endsWith(";")) {
                int end = i;
                while (!lines.get(end).equals(matcher.group(1) + "}")) {
                    end++;
                }
                blocks.add(new Block(matcher.group(2), lines.get(i).trim(), lines.subList(i, end)));
            }
        }
        return blocks;
    }

    private static void methodLengths(List<Block> blocks) {
        check.holds("the methods are found", blocks.size() > 60);
        for (Block block : blocks) {
            check.holds(block.head + " is short", block.lines.size() <= LONGEST_METHOD);
        }
    }

    /** By names alone, so that methods of one name count as one: that can only make it deeper. */
    private static Map<String, Set<String>> callsOf(List<Block> blocks) {
        Map<String, Set<String>> calls = new TreeMap<>();
        for (Block block : blocks) {
            calls.put(block.name, new TreeSet<>());
        }
        for (Block block : blocks) {
            String body = String.join("\n", block.lines.subList(1, block.lines.size()));
            Matcher called = Pattern.compile("\\b(\\w+)\\(").matcher(withoutComments(body));
            while (called.find()) {
                if (calls.containsKey(called.group(1))) {
                    calls.get(block.name).add(called.group(1));
                }
            }
        }
        return calls;
    }

    /** No deeper than is too deep already: a method that called itself would have no end. */
    private static int depthOf(String name, Map<String, Set<String>> calls, int open) {
        int deepest = 1;
        if (open <= DEEPEST_CALLS) {
            for (String called : calls.get(name)) {
                deepest = Math.max(deepest, 1 + depthOf(called, calls, open + 1));
            }
        }
        return deepest;
    }

    private static void callDepths(List<Block> blocks) {
        Map<String, Set<String>> calls = callsOf(blocks);
        check.holds("calls are found", calls.get("day").contains("readMorning"));
        for (String name : calls.keySet()) {
            int depth = depthOf(name, calls, 1);
            check.holds(name + " calls " + depth + " deep", depth <= DEEPEST_CALLS);
        }
    }
}
