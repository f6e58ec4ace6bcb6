import java.io.IOException;
import java.nio.file.Files;
import java.nio.file.Path;
import java.util.HashMap;
import java.util.HashSet;
import java.util.Map;
import java.util.Set;
import java.util.regex.Matcher;
import java.util.regex.Pattern;

/** What of LANGUAGE.md can be seen in the text of the class without a compiler. Runs in the project's folder. */
public final class RulesTest {
    private RulesTest() {
    }

    public static void main(String[] args) throws IOException {
        String source = Files.readString(Path.of("src/main/java/TeaJunction.java"));
        String code = source.replaceAll("/\\*(?s:.*?)\\*/", "").replaceAll("//[^\n]*", "");
        never(code, "\\b(synchronized|assert|finally|package|protected|volatile|transient|native|instanceof)\\b");
        never(code, "->|::");
        never(code, "\\b(try|catch)\\b");
        never(code, "\\w+Exact\\s*\\(");
        never(code, "\\bString\\s*\\[");
        never(code, "\\b(float|double)\\b");
        never(code, "\\b(equals|hashCode|toString|ordinal|name)\\s*\\(");
        never(code, "\"\\s*\\+|\\+\\s*\"");
        never(code, "\\bwhile\\s*\\(\\s*true|\\bfor\\s*\\(\\s*;");
        only(code, "\\bimport\\s+([\\w.]+)", "java.util.NoSuchElementException");
        only(code, "\\bthrow\\s+new\\s+(\\w+)", "NoSuchElementException");
        only(code, "\\bSystem\\.(\\w+)", "arraycopy");
        only(code, "\\bInteger\\.(\\w+)", "bitCount");
        only(code, "\\bMath\\.(\\w+)", "min|max");
        Check.due("signs below 128", code.chars().allMatch(c -> c < 128), true);
        Check.due("some twelve classes at most",
                Pattern.compile("\\b(class|enum|interface|record) \\w+").matcher(code).results().count() <= 12, true);
        Check.due("one class that is public", Pattern.compile("\\bpublic \\w* ?class").matcher(code).results().count(), 1);
        methods(source);
        depths(code);
        Check.end("RulesTest");
    }

    private static void never(String code, String pattern) {
        Matcher m = Pattern.compile(pattern).matcher(code);
        Check.due("never " + pattern + (code.isEmpty() ? "" : m.find() ? ": " + m.group() : ""), m.reset().find(), false);
    }

    private static void only(String code, String pattern, String allowed) {
        Matcher m = Pattern.compile(pattern).matcher(code);
        while (m.find()) {
            Check.due("only " + allowed + ": " + m.group(), m.group(1).matches(allowed), true);
        }
    }

    /** Some sixty lines, seven parameters. */
    private static void methods(String source) {
        String[] lines = source.split("\n");
        Pattern head = Pattern.compile("^( {4}| {8})(?! |if|for|while|switch|else)[\\w<>\\[\\] ]+ ?\\w*\\(([^()]*)\\)( throws \\w+)? \\{$");
        int found = 0;
        for (int i = 0; i < lines.length; i++) {
            Matcher m = head.matcher(lines[i]);
            if (!m.matches()) {
                continue;
            }
            found++;
            int end = i;
            while (!lines[end].equals(m.group(1) + "}")) {
                end++;
            }
            Check.due("lines of " + lines[i].trim(), end - i <= 60, true);
            Check.due("parameters of " + lines[i].trim(), m.group(2).split(",").length <= 7, true);
        }
        Check.due("methods found", found > 90, true);
    }

    /** Calls that are no recursion go at most eight deep: methods of one name count as one, E but once. */
    private static void depths(String code) {
        Pattern head = Pattern.compile("(?m)^( {4}| {8})(?! |if|for|while|switch|else)[\\w<>\\[\\] ]+ (\\w+)\\([^()]*\\)[^;{]*\\{$");
        Map<String, Set<String>> calls = new HashMap<>();
        Matcher m = head.matcher(code);
        while (m.find()) {
            int end = code.indexOf("\n" + m.group(1) + "}", m.end());
            Set<String> of = calls.computeIfAbsent(m.group(2), n -> new HashSet<>());
            Pattern.compile("\\b(\\w+)\\(").matcher(code.substring(m.end(), end)).results().forEach(r -> of.add(r.group(1)));
        }
        Check.due("methods found", calls.size() > 80, true);
        for (String name : calls.keySet()) {
            Check.due("calls below " + name, depth(calls, name, new HashSet<>()) <= 8, true);
        }
    }

    private static int depth(Map<String, Set<String>> calls, String name, Set<String> above) {
        boolean ofE = name.matches("read(Whole|Test|Sum|Product|Part)");
        if (!calls.containsKey(name) || above.contains(name)) {
            return 0;
        }
        above.add(name);
        int most = 0;
        for (String next : calls.get(name)) {
            boolean within = ofE && next.matches("read(Whole|Test|Sum|Product|Part)");
            most = Math.max(most, depth(calls, next, above) - (within ? 1 : 0));
        }
        above.remove(name);
        return most + 1;
    }
}
