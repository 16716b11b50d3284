import java.io.IOException;
import java.nio.file.Files;
import java.nio.file.Path;
import java.util.List;

/** What of ../shared/LANGUAGE.md can be seen in the class's text. To be run from the project's folder. */
public final class RulesTest {
    private static final String[] NEVER = {"->", "::", " catch", " try", "throw ", "finally", "synchronized", "assert ",
        "static {", "package ", "@", "instanceof", "System.out", "System.nano", "System.current", "Exact(", "double",
        "float", ".equals(", "hashCode", "toString", "while (true)", "for (;;)", " var "};

    public static void main(String[] args) throws IOException {
        List<String> lines = Files.readAllLines(Path.of("src/main/java/FameAhead.java"));
        int classes = 0;
        int method = 0;
        for (int i = 0; i < lines.size(); i++) {
            String code = withoutTexts(lines.get(i));
            for (String word : NEVER) {
                Due.is("line " + (i + 1) + " says " + word, code.contains(word) ? 1 : 0, 0);
            }
            boolean isImport = code.startsWith("import ") && !code.equals("import java.util.Arrays;");
            Due.is("line " + (i + 1) + " imports", isImport ? 1 : 0, 0);
            classes += code.matches(".*\\bclass [A-Z].*") ? 1 : 0;
            if (code.matches(" {4}( {4})?[a-z].*\\) \\{")) {
                method = i;
            }
            if (code.matches(" {4}( {4})?\\}") && method > 0) {
                Due.is("lines of the method at " + (method + 1), i - method < 60 ? 1 : 0, 1);
            }
        }
        Due.is("classes are twelve at most: " + classes, classes <= 12 ? 1 : 0, 1);
        Due.close();
    }

    /** A line without its comment and without signs in ' '. */
    private static String withoutTexts(String line) {
        String code = line.replaceAll("'.'", "0");
        boolean isComment = code.strip().startsWith("/**") || code.strip().startsWith("*");
        return isComment ? "" : code.replaceAll("//.*", "");
    }
}
