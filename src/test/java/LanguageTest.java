import java.io.IOException;
import java.nio.file.Files;
import java.nio.file.Path;
import java.util.Set;
import java.util.TreeSet;
import java.util.regex.Matcher;
import java.util.regex.Pattern;

/** What a look at the program's text can tell of ../shared/LANGUAGE.md. Run from the project's folder. */
public final class LanguageTest {
    private static final Path PROGRAM = Path.of("src/main/java/NoticeWeek.java");
    private static final String[] RULED_OUT = {"\\bthrows?\\b", "\\btry\\b", "\\bcatch\\b", "\\bfinally\\b", "\\bsynchronized\\b",
        "\\bassert\\b", "\\bimport\\b", "\\bpackage\\b", "\\bprotected\\b", "\\bvolatile\\b", "\\bnative\\b", "\\bvar\\b",
        "->", "::", "@", "\\bstatic\\s*\\{", "\\w+Exact\\b", "while\\s*\\(\\s*true\\s*\\)", "for\\s*\\(\\s*;\\s*;"};
    private static final Set<String> LIBRARY = Set.of("Integer.bitCount", "Math.min", "Math.max", "System.arraycopy");
    private static final int LONGEST_METHOD = 60;

    private static int wrong = 0;

    public static void main(String[] args) throws IOException {
        String code = withoutComments(Files.readString(PROGRAM));
        for (String pattern : RULED_OUT) {
            require(!Pattern.compile(pattern).matcher(code).find(), "the program has no " + pattern);
        }
        library(code);
        lengths(code);
        System.out.println("LanguageTest: " + wrong + " wrong");
        System.exit(wrong == 0 ? 0 : 1);
    }

    private static String withoutComments(String text) {
        return text.replaceAll("(?s)/\\*.*?\\*/", "").replaceAll("//[^\n]*", "");
    }

    /** Every name with a capital that is followed by a dot is a class of the program, or in the list. */
    private static void library(String code) {
        Set<String> own = new TreeSet<>();
        Matcher classes = Pattern.compile("\\bclass (\\w+)").matcher(code);
        while (classes.find()) {
            own.add(classes.group(1));
        }
        Matcher uses = Pattern.compile("\\b([A-Z][a-z]\\w*)\\.(\\w+)").matcher(code);
        while (uses.find()) {
            boolean known = own.contains(uses.group(1)) || LIBRARY.contains(uses.group());
            require(known, "the library has " + uses.group());
        }
        Matcher made = Pattern.compile("\\bnew (\\w+)").matcher(code);
        while (made.find()) {
            require(own.contains(made.group(1)) || made.group(1).equals("int"), "what is made is the program's own: " + made.group());
        }
    }

    /** A method ends where a brace stands as far from the left as its first line. */
    private static void lengths(String code) {
        String[] lines = code.split("\n");
        for (int i = 0; i < lines.length; i++) {
            require(lines[i].length() <= 110, "a line is short: " + lines[i]);
            boolean begins = lines[i].matches(" +[\\w ]+\\(.*\\) \\{") && !lines[i].matches(" +(if|for|while|switch) .*");
            if (begins) {
                String end = lines[i].replaceAll("\\S.*", "}");
                int last = i;
                while (last < lines.length && !lines[last].equals(end)) {
                    last++;
                }
                require(last - i < LONGEST_METHOD, "a method is short: " + lines[i]);
            }
        }
    }

    private static void require(boolean holds, String what) {
        if (!holds) {
            wrong++;
            System.out.println("not so: " + what);
        }
    }
}
