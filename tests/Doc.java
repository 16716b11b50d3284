import java.io.IOException;
import java.nio.file.Files;
import java.nio.file.Path;
import java.util.BitSet;
import java.util.regex.Matcher;
import java.util.regex.Pattern;

/** The document, and which of its sentences have been held against the class. To be used from the project's folder. */
final class Doc {
    private static final int PROMISES = 45;
    /** What asks for nothing by itself: headings, each call's own line, which calls the interface tells together. */
    private static final Pattern HEADINGS = Pattern.compile("## Terms|======== \\d|```(text)?|BODIES of acts:"
        + "|## Promise \\d+: [^`]*`[^`]*`:|Ahead of the calls (`\\w+`,? )+the interface says: ---- [a-z, ]+");
    private static final Pattern WORDS = Pattern.compile("[^\\n]*[A-Za-z0-9][^\\n]*");
    private static final String TEXT = read();
    private static final BitSet QUOTED = new BitSet();

    private Doc() {
    }

    private static String read() {
        try {
            return Files.readString(Path.of("../shared/DOC.md")).replaceAll("\\s+", " ");
        } catch (IOException e) {
            throw new IllegalStateException("../shared/DOC.md can't be read", e);
        }
    }

    private static int beginOf(int part) {
        return part == 0 ? TEXT.indexOf("An object is used") : TEXT.indexOf("## Promise " + part + ":");
    }

    private static int endOf(int part) {
        return part == PROMISES ? TEXT.indexOf("## Not promised") : beginOf(part + 1);
    }

    /** Part 0: all ahead of promise 1; else the promise's number. */
    static void quote(int part, String words) {
        int at = TEXT.indexOf(words, beginOf(part));
        boolean stands = at >= 0 && at + words.length() <= endOf(part);
        Due.is("the document says in part " + part + ": " + words, stands ? 1 : 0, 1);
        if (stands) {
            QUOTED.set(at, at + words.length());
        }
    }

    /** Names each sentence of the terms and the promises that no test has quoted. */
    static void everySentenceIsQuoted() {
        int begin = TEXT.indexOf("## Terms");
        int end = endOf(PROMISES);
        StringBuilder rest = new StringBuilder();
        for (int i = begin; i < end; i++) {
            rest.append(QUOTED.get(i) ? '\n' : TEXT.charAt(i));
        }
        Matcher unquoted = WORDS.matcher(HEADINGS.matcher(rest).replaceAll("\n"));
        while (unquoted.find()) {
            Due.is("tests of the sentence: " + unquoted.group(), 0, 1);
        }
    }
}
