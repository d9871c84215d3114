import java.nio.file.Files;
import java.nio.file.Path;
import java.util.List;
import java.util.Set;
import java.util.regex.Matcher;
import java.util.regex.Pattern;

/** Those rules of LANGUAGE.md that the text of the source shows; each message begins with the rule's number. */
final class SourceTest {
    private static final Set<String> IMPORTS = Set.of("java.util.ArrayList", "java.util.Arrays", "java.util.Iterator",
        "java.util.List", "java.util.NoSuchElementException");
    private static final Set<String> EXCEPTIONS = Set.of("IllegalStateException", "IllegalArgumentException",
        "IndexOutOfBoundsException", "ArithmeticException", "UnsupportedOperationException", "NoSuchElementException",
        "RuntimeException");
    private static final Pattern HEAD = Pattern.compile("^ {4,8}(?:\\w[^=;]*)?\\b\\w+\\(([^)]*)\\)[^=;]*\\{$");

    public static void main(String[] args) throws Exception {
        String text = Files.readString(Path.of("src/main/java/TieredMachine.java"));
        String code = text.replaceAll("(?s)/\\*.*?\\*/", "").replaceAll("//[^\n]*", "");
        imports(code);
        absent(code);
        exceptions(code);
        lengths(text.lines().toList());
        Check.end();
    }

    private static void imports(String code) {
        Matcher m = Pattern.compile("(?m)^import (.*);").matcher(code);
        while (m.find()) {
            Check.due("4: import " + m.group(1), IMPORTS.contains(m.group(1)), true);
        }
        Check.due("no package", Pattern.compile("(?m)^package ").matcher(code).find(), false);
    }

    private static void absent(String code) {
        String[][] banned = {
            {"2: a lambda", "->"}, {"2: a method reference", "::"}, {"4: a function that throws", "\\w+Exact\\b"},
            {"4: a name of the library", "\\bjava\\.(?!util\\.\\w+;)"}, {"4: System", "\\bSystem\\.(?!arraycopy\\()"},
            {"5: a static block", "\\bstatic\\s*\\{"}, {"6: a catch all", "catch\\s*\\((Exception|Throwable|Error)\\b"},
            {"6: a word", "\\b(finally|synchronized|assert|volatile|native)\\b"},
            {"6: a method of objects", "\\.(hashCode|getClass|getMessage)\\("},
            {"10: a joined text", "\"\\s*\\+|\\+\\s*\""},
            {"13: outside", "\\b(Thread|Random|Runtime|nanoTime|currentTimeMillis)\\b"}};
        for (String[] each : banned) {
            Check.due(each[0], Pattern.compile(each[1]).matcher(code).find(), false);
        }
        Check.due("4: signs 1 to 127", code.chars().allMatch(c -> c >= 1 && c <= 127), true);
    }

    private static void exceptions(String code) {
        Matcher m = Pattern.compile("\\bthrow\\b(?: new (\\w+)\\((?:\"[^\"]*\")?\\);)?").matcher(code);
        while (m.find()) {
            Check.due("6: " + m.group(), m.group(1) != null && EXCEPTIONS.contains(m.group(1)), true);
        }
    }

    /** A method ends where a brace stands as far in as its head. */
    private static void lengths(List<String> lines) {
        int methods = 0;
        for (int i = 0; i < lines.size(); i++) {
            String head = lines.get(i);
            if (head.endsWith(")") && i + 1 < lines.size() && lines.get(i + 1).strip().startsWith("throws ")) {
                head = head + " " + lines.get(i + 1).strip();
            }
            Matcher m = HEAD.matcher(head);
            if (!m.matches() || head.strip().matches("(if|for|while|switch|\\}).*")) {
                continue;
            }
            methods++;
            String end = head.substring(0, head.length() - head.stripLeading().length()) + "}";
            int length = lines.subList(i, lines.size()).indexOf(end) + 1;
            Check.due("11: at most sixty lines: " + head.strip(), length > 0 && length <= 60, true);
            Check.due("11: at most seven parameters: " + head.strip(), m.group(1).split(",").length <= 7, true);
        }
        Check.due("the methods were found", methods > TieredMachine.class.getMethods().length, true);
    }
}
