import java.io.IOException;
import java.nio.file.Files;
import java.nio.file.Path;
import java.util.ArrayList;
import java.util.Comparator;
import java.util.List;
import java.util.regex.Pattern;

/** Every word of the document's terms and promises stands in the quotation of a test, and every quotation in the document. */
final class DocTest {
    private static final int PROMISES = 27;

    private DocTest() {
    }

    static void all(String document) throws IOException {
        Path path = Path.of(document);
        if (!Files.isReadable(path)) {
            System.out.println(document + " is not here: what the tests quote is not compared with it");
            return;
        }
        String text = Files.readString(path);
        for (int section = Edges.WHAT_IT_IS; section <= PROMISES; section++) {
            String words = wordsOf(text, section);
            quotationsStand(section, words);
            if (section != Edges.WHAT_IT_IS) {
                allIsQuoted(section, words);
            }
        }
    }

    /** A section's sentences, without its title, the calls' types, the names ahead of ranges, and examples of code. */
    private static String wordsOf(String document, int section) {
        int title = document.indexOf("## " + Edges.nameOf(section) + (section > 0 ? ":" : "\n"));
        Checks.holds(Edges.nameOf(section) + " stands in the document", title >= 0);
        int start = document.indexOf('\n', Math.max(title, 0));
        // The first section tells of an object's use below the title that follows it.
        int end = document.indexOf("\n## ", section == Edges.WHAT_IT_IS ? document.indexOf("\n## ", start) + 1 : start);
        String words = document.substring(start, end < 0 ? document.length() : end);
        words = words.replaceAll("(?m)^`[^`]*`: ", "").replaceAll("(?m)^- `[a-z]*`: ", "").replaceAll("(?m)^(```|###).*$", "");
        return words.replace("`", "").replaceAll("\\s+", " ");
    }

    private static void quotationsStand(int section, String words) {
        for (String quoted : Edges.quoted(section)) {
            Checks.holds(Edges.nameOf(section) + " says \"" + quoted + "\"", words.contains(quoted));
        }
    }

    private static void allIsQuoted(int section, String words) {
        List<String> quoted = new ArrayList<>(Edges.quoted(section));
        quoted.sort(Comparator.comparingInt(String::length).reversed());
        String left = words;
        for (String one : quoted) {
            left = left.replaceAll(Pattern.quote(one), "|");
        }
        // What stands ahead of some calls in the interface promises nothing, but for the two that are quoted.
        left = left.replaceAll("CONVENTIONS|Ahead of the calls [a-zA-Z, ]* the interface says: ---- [a-z, ]*\\.", "");
        Checks.due(Edges.nameOf(section) + ": without a test", left.replaceAll("[|\\s.,:;]", ""), "");
    }
}
