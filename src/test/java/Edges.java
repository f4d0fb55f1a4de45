import java.io.IOException;
import java.nio.file.Files;
import java.nio.file.Path;
import java.util.BitSet;
import java.util.Map;
import java.util.TreeMap;
import java.util.regex.Matcher;
import java.util.regex.Pattern;

/**
 * The document, sentence by sentence: a sentence is told in its own words, with the scripts that would fail if
 * it did not hold. A sentence that the document does not have fails, and so does one that no test names.
 */
final class Edges {
    /** The beginning of many scripts: one of each KIND, and one who is dead. */
    static final String TOWN = "read w9;p1,7,5;v0,63,2;s2,61,9;c4,3,3;k0,9,60;p5,5,0; -> 6\n";

    private static final Path DOCUMENT = Path.of("../shared/DOC.md");

    private final Script script = new Script();
    private final Map<String, String> sections = new TreeMap<>();
    private final Map<String, BitSet> named = new TreeMap<>();
    private String section = "";

    Edges() throws IOException {
        String document = Files.readString(DOCUMENT);
        Matcher heads = Pattern.compile("(?m)^## (Terms|Promise \\d+)").matcher(document);
        while (heads.find()) {
            int end = document.indexOf("\n## ", heads.end());
            String text = document.substring(heads.end(), end < 0 ? document.length() : end);
            sections.put(heads.group(1), plain(text));
            named.put(heads.group(1), new BitSet());
        }
    }

    /** The sentences alone: without what is left of a heading, fences, numbers of parts, and a method's line. */
    private static String plain(String text) {
        int notes = text.indexOf("\nAhead of the calls");
        String sentences = (notes < 0 ? text : text.substring(0, notes))
                .replaceFirst("^[^\n]*\n", "")
                .replaceAll("```(text)?", "")
                .replaceAll("======== \\d", "")
                .replaceFirst("^\\s*`[^`]*`:", "");
        return sentences.replaceAll("\\s+", " ").strip();
    }

    /** What is told from now on stands in this section of the document. */
    void in(String title) {
        section = title;
        script.due("the document has a section", title, sections.containsKey(title) ? 1 : 0, 1);
    }

    void holds(String sentence, String... runs) {
        String text = sections.getOrDefault(section, "");
        int from = text.indexOf(sentence);
        script.due(section + " says", sentence, from >= 0 && runs.length > 0 ? 1 : 0, 1);
        for (; from >= 0; from = text.indexOf(sentence, from + 1)) {
            named.get(section).set(from, from + sentence.length());
        }
        for (String run : runs) {
            script.run(section + ", \"" + sentence + "\"", run);
        }
    }

    void close(String name) {
        for (Map.Entry<String, String> one : sections.entrySet()) {
            String text = one.getValue();
            StringBuilder rest = new StringBuilder();
            for (int i = 0; i < text.length(); i++) {
                rest.append(named.get(one.getKey()).get(i) ? ' ' : text.charAt(i));
            }
            String unnamed = rest.toString().replaceAll("\\s+", " ").strip();
            script.due(one.getKey() + " has a test for all", unnamed, unnamed.length(), 0);
        }
        script.due("sections of the document", "Terms and 33 promises", sections.size(), 34);
        script.close(name);
    }

    /** A script that feeds a text, blanks too, behind so many bytes that are on the tape. */
    static String feeding(String text, int before) {
        StringBuilder run = new StringBuilder();
        for (int i = 0; i < text.length(); i++) {
            run.append("feed ").append((int) text.charAt(i)).append(" -> ").append(before + i + 1).append('\n');
        }
        return run.toString();
    }

    /** A script of one call and its answer, several times. */
    static String times(int n, String call) {
        return (call + "\n").repeat(n);
    }

    /** A script that undoes all ACTS, so many. */
    static String undone(int acts) {
        StringBuilder run = new StringBuilder();
        for (int left = acts - 1; left >= 0; left--) {
            run.append("undo -> ").append(left).append('\n');
        }
        return run.toString();
    }

    /** A script that makes a ROW of a LANE with these ITEMS. */
    static String rowOf(int row, int lane, int... items) {
        StringBuilder run = new StringBuilder();
        run.append("row ").append(row).append(' ').append(lane).append(' ').append(items.length);
        run.append(" -> ").append(items.length).append('\n');
        for (int i = 0; i < items.length; i++) {
            run.append("set ").append(row).append(' ').append(i).append(' ').append(items[i]);
            run.append(" -> ").append(items[i]).append('\n');
        }
        return run.toString();
    }
}
