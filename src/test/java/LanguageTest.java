import java.nio.file.Files;
import java.nio.file.Path;
import java.util.List;
import java.util.regex.Matcher;
import java.util.regex.Pattern;

/** What of LANGUAGE.md can be seen from the source's text alone. */
public final class LanguageTest {
    private static final Check CHECK = new Check();

    public static void main(String[] args) throws Exception {
        String all = Files.readString(Path.of("src/main/java/CornerMaps.java"));
        String source = all.replaceAll("(?s)/\\*.*?\\*/", "").replaceAll("//.*", "");
        none(all, "[^\\x00-\\x7f]", "3: signs beyond 127");
        none(source, "->|::", "2: a lambda or a method reference");
        none(source, "\\b(protected|synchronized|assert|finally|try|catch|instanceof|record|native|volatile)\\b", "6");
        none(source, "\\b(double|float)\\b", "3: no need of them here");
        none(source, "\\w+Exact\\(", "4");
        none(source, "^package ", "no package");
        none(source, "System\\.(?!arraycopy\\()", "13");
        none(source, "\"[^\"]*\"\\s*\\+|\\+\\s*\"", "10: texts joined by +");
        none(source, "static\\s*\\{", "5: a static initialiser");
        Matcher imports = Pattern.compile("(?m)^import (.*);").matcher(source);
        while (imports.find()) {
            CHECK.due(imports.group(1), imports.group(1).equals("java.util.NoSuchElementException") ? 1 : 0, 1);
        }
        Matcher thrown = Pattern.compile("throw (new \\w+\\(\\))?").matcher(source.replace("throws ", ""));
        while (thrown.find()) {
            boolean good = "new IndexOutOfBoundsException()".equals(thrown.group(1))
                || "new NoSuchElementException()".equals(thrown.group(1));
            CHECK.due("6: " + thrown.group(), good ? 1 : 0, 1);
        }
        methods(List.of(all.split("\n")));
        CHECK.end();
    }

    private static void none(String source, String pattern, String rule) {
        Matcher m = Pattern.compile(pattern, Pattern.MULTILINE).matcher(source);
        CHECK.due("rule " + rule + ": " + pattern, m.find() ? m.start() : -1, -1);
    }

    /** No method above sixty lines, none of more than seven parameters. */
    private static void methods(List<String> lines) {
        Pattern head = Pattern.compile("^( {4}| {8})(?:\\w+(?:\\[\\])* )*\\w+\\(([^()]*)\\)( throws [^{]*)? \\{$");
        int count = 0;
        for (int i = 0; i < lines.size(); i++) {
            Matcher m = head.matcher(lines.get(i));
            if (!m.find() || lines.get(i).contains(" new ") || lines.get(i).trim().startsWith("if ")) {
                continue;
            }
            count++;
            int end = i;
            while (!lines.get(end).equals(m.group(1) + "}")) {
                end++;
            }
            CHECK.due("11: lines of " + lines.get(i), end - i <= 60 ? 1 : 0, 1);
            CHECK.due("11: parameters of " + lines.get(i), m.group(2).split(",").length <= 7 ? 1 : 0, 1);
        }
        CHECK.due("methods seen", count > 150 ? 1 : 0, 1);
    }
}
