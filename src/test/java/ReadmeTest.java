import java.io.ByteArrayOutputStream;
import java.io.IOException;
import java.io.PrintStream;
import java.lang.reflect.Field;
import java.lang.reflect.Method;
import java.lang.reflect.Modifier;
import java.net.URL;
import java.net.URLClassLoader;
import java.nio.charset.StandardCharsets;
import java.nio.file.Files;
import java.nio.file.Path;
import java.util.ArrayList;
import java.util.Comparator;
import java.util.List;
import java.util.regex.Matcher;
import java.util.regex.Pattern;
import java.util.stream.Stream;
import javax.tools.ToolProvider;

/** README.md: its program prints, and its examples answer, what it says; it tells of every call and constant. */
public final class ReadmeTest {
    private static final Pattern BLOCK = Pattern.compile("(?ms)^```(java|text)\n(.*?)^```$");
    private static final Pattern PROGRAM = Pattern.compile("public class (\\w+)");
    /** A call, and behind it the answer that is due and why. */
    private static final Pattern EXAMPLE = Pattern.compile("(?m)^(week\\.\\w+\\(.*\\)); +// (\\S+): \\S.*$");
    private static final String EXAMPLES = "ReadmeExamples";
    /** Fewer than so many would say that the page is not read as it is meant. */
    private static final int FEWEST_EXAMPLES = 50;

    private static int wrong = 0;

    public static void main(String[] args) throws Exception {
        String page = Files.readString(Path.of("README.md"));
        Path folder = Files.createTempDirectory("readme");
        int examples;
        try {
            programs(page, folder);
            examples = examples(page, folder);
        } finally {
            remove(folder);
        }
        names(page);
        System.out.println("ReadmeTest: " + examples + " examples, " + wrong + " wrong");
        System.exit(wrong == 0 ? 0 : 1);
    }

    /** A block that is a whole program is run; the next block of text is what it prints. */
    private static void programs(String page, Path folder) throws Exception {
        Matcher blocks = BLOCK.matcher(page);
        String program = "";
        int run = 0;
        while (blocks.find()) {
            if (blocks.group(1).equals("text") && !program.isEmpty()) {
                String printed = outputOf(program, folder);
                require(printed.equals(blocks.group(2)), "the program prints what the page says, not\n" + printed);
                program = "";
                run++;
            } else if (PROGRAM.matcher(blocks.group(2)).find()) {
                program = blocks.group(2);
            }
        }
        require(run == 1 && program.isEmpty(), "there is a first program and what it prints");
    }

    /** All other blocks of Java are one example, each answer of which is looked at. */
    private static int examples(String page, Path folder) throws Exception {
        StringBuilder body = new StringBuilder();
        Matcher blocks = BLOCK.matcher(page);
        while (blocks.find()) {
            if (blocks.group(1).equals("java") && !PROGRAM.matcher(blocks.group(2)).find()) {
                body.append(blocks.group(2));
            }
        }
        Matcher calls = EXAMPLE.matcher(body);
        List<String> told = new ArrayList<>();
        while (calls.find()) {
            told.add(calls.group());
        }
        long unread = body.toString().lines().filter(line -> line.startsWith("week.")).count() - told.size();
        require(unread == 0, "each call of an example has its answer behind it: " + unread + " have not");
        require(told.size() >= FEWEST_EXAMPLES, "there are examples: " + told.size());
        String source = "public class " + EXAMPLES + " {\n public static void main(String[] args) {\n"
                + calls.reset().replaceAll("System.out.println($1 == $2);") + " }\n}\n";
        String[] answers = outputOf(source, folder).split("\n");
        for (int i = 0; i < told.size(); i++) {
            require(i < answers.length && answers[i].equals("true"), told.get(i));
        }
        return told.size();
    }

    private static String outputOf(String source, Path folder) throws Exception {
        Matcher name = PROGRAM.matcher(source);
        if (!name.find()) {
            throw new IllegalStateException(source);
        }
        Path file = folder.resolve(name.group(1) + ".java");
        Files.writeString(file, source);
        int code = ToolProvider.getSystemJavaCompiler().run(null, null, null, "-cp", System.getProperty("java.class.path"),
                "-d", folder.toString(), file.toString());
        require(code == 0, "what the page tells compiles: " + name.group(1));
        if (code != 0) {
            return "";
        }
        PrintStream before = System.out;
        ByteArrayOutputStream printed = new ByteArrayOutputStream();
        try (URLClassLoader loader = new URLClassLoader(new URL[] {folder.toUri().toURL()})) {
            System.setOut(new PrintStream(printed, true, StandardCharsets.UTF_8));
            loader.loadClass(name.group(1)).getMethod("main", String[].class).invoke(null, (Object) new String[0]);
        } finally {
            System.setOut(before);
        }
        return printed.toString(StandardCharsets.UTF_8);
    }

    /** Every call stands in a table with as many arguments as it takes; every constant with its value. */
    private static void names(String page) throws IllegalAccessException {
        for (Method method : NoticeWeek.class.getDeclaredMethods()) {
            if (Modifier.isPublic(method.getModifiers())) {
                String arguments = "\\w+, ".repeat(method.getParameterCount()).replaceFirst(", $", "");
                String row = "(?m)^\\| `" + method.getName() + "\\(" + arguments + "\\)` \\|";
                require(Pattern.compile(row).matcher(page).find(), "the page tells of " + method.getName());
            }
        }
        for (Field field : NoticeWeek.class.getFields()) {
            String row = "| " + field.getInt(null) + " | `NoticeWeek." + field.getName() + "` |";
            require(page.contains(row), "the page tells of " + field.getName());
        }
    }

    private static void remove(Path folder) throws IOException {
        try (Stream<Path> files = Files.walk(folder)) {
            for (Path file : files.sorted(Comparator.reverseOrder()).toList()) {
                Files.delete(file);
            }
        }
    }

    private static void require(boolean holds, String what) {
        if (!holds) {
            wrong++;
            System.out.println("not so: " + what);
        }
    }
}
