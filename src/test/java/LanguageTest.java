import java.io.IOException;
import java.nio.file.Files;
import java.nio.file.Path;
import java.util.List;
import java.util.regex.Matcher;
import java.util.regex.Pattern;

/** What of ../shared/LANGUAGE.md can be seen in the text of the class; run from the project's folder. */
public final class LanguageTest {
    private static final String[] NEVER = {"try", "catch", "finally", "synchronized", "assert", "protected", "package",
        "volatile", "native", "transient", "Object", "System.out", "Thread", "Random", "HashMap",
        "Exact", "equals", "hashCode", "toString", "getMessage"};

    public static void main(String[] args) throws IOException {
        String text = Files.readString(Path.of("src/main/java/AsOneHouse.java"));
        String code = text.replaceAll("(?s)/\\*.*?\\*/", "").replaceAll("//[^\\n]*", "")
                .replaceAll("\"[^\"\\n]*\"", "\"\"");
        for (String word : NEVER) {
            Due.is("never: " + word, 0, times(code, "\\b" + Pattern.quote(word) + "\\b"));
        }
        Due.is("no lambda, no method reference", 0, times(code, "->|::"));
        Due.is("one import", 1, times(code, "(?m)^import "));
        Due.is("which is Arrays", 1, times(code, "(?m)^import java\\.util\\.Arrays;$"));
        Due.is("static fields are final", 0, times(code, "static (?!final)[\\w\\[\\]]+ \\w+ *[;=]"));
        Due.is("no static block", 0, times(code, "static *\\{"));
        Due.is("throws only what rule 6 names", times(code, "\\bthrow\\b"), times(code,
                "throw new (IllegalArgument|IllegalState|IndexOutOfBounds|UnsupportedOperation)Exception\\(\"\"\\);"));
        Due.is("at most twelve classes", 1, times(code, "\\bclass \\w+") <= 12 ? 1 : 0);
        Due.is("loops with a bound", 0, times(code, "while *\\(true|for *\\(;|\\bdo *\\{"));
        methods(code.lines().toList());
        Due.end();
    }

    private static int times(String text, String pattern) {
        Matcher m = Pattern.compile(pattern).matcher(text);
        int n = 0;
        while (m.find()) {
            n++;
        }
        return n;
    }

    /** Methods are indented by 4, or by 8 in the classes inside, and end with a brace as deep as they begin. */
    private static void methods(List<String> lines) {
        Pattern head = Pattern.compile("( {4}| {8})(?! )[\\w\\[\\] ]*\\b(\\w+)\\(([^)]*)\\).*\\{");
        for (int i = 0; i < lines.size(); i++) {
            Matcher m = head.matcher(lines.get(i));
            if (!m.matches() || m.group(2).matches("if|for|while|switch")) {
                continue;
            }
            int j = i;
            while (!lines.get(j).equals(m.group(1) + "}")) {
                j++;
            }
            Due.is(m.group(2) + " is short", 1, j - i <= 60 ? 1 : 0);
            Due.is(m.group(2) + " takes at most seven", 1, m.group(3).split(",").length <= 7 ? 1 : 0);
        }
    }
}
