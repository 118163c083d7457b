import java.io.ByteArrayOutputStream;
import java.io.IOException;
import java.io.PrintStream;
import java.net.URL;
import java.net.URLClassLoader;
import java.nio.charset.StandardCharsets;
import java.nio.file.Files;
import java.nio.file.Path;
import java.util.ArrayList;
import java.util.List;
import java.util.Set;
import java.util.TreeSet;
import java.util.regex.Matcher;
import java.util.regex.Pattern;
import java.util.stream.Stream;
import javax.tools.ToolProvider;

/** README.md: each call that it shows is made, and its first program is compiled and run. */
public final class ReadmeTest {
    private static final Check CHECK = new Check("ReadmeTest");
    private static final Path DOC = Path.of("../shared/DOC.md");
    private static final String MADE = "FieldAfterField x = new FieldAfterField();";
    private static final Pattern ROW = Pattern.compile("x\\.(\\w+)\\(([^)]*)\\); +// (-?\\d+|[A-Z]+)(: .+)?");
    private static final String PROGRAM = "public final class Example";

    /** Calls and refusals that the examples have shown so far. */
    private static final Set<String> SHOWN = new TreeSet<>();

    public static void main(String[] args) throws Exception {
        String readme = Files.readString(Path.of("README.md"), StandardCharsets.UTF_8);
        List<String> blocks = blocksOf(readme, "java");
        CHECK.holds("the first Java of README.md is a program", blocks.get(0).startsWith(PROGRAM));
        program(blocks.get(0), blocksOf(readme, "text").get(0));
        for (String block : blocks.subList(1, blocks.size())) {
            example(block);
        }
        allIsShown();
        allIsTold(readme);
        CHECK.end();
    }

    private static List<String> blocksOf(String readme, String kind) {
        List<String> found = new ArrayList<>();
        Matcher block = Pattern.compile("(?s)\n```" + kind + "\n(.*?)```\n").matcher(readme);
        while (block.find()) {
            found.add(block.group(1));
        }
        return found;
    }

    private static void example(String block) {
        String[] rows = block.split("\n");
        CHECK.holds("an example begins with an object of its own: " + rows[0], rows[0].equals(MADE));
        FieldAfterField x = new FieldAfterField();
        for (int n = 1; n < rows.length; n++) {
            Matcher row = ROW.matcher(rows[n]);
            if (row.matches()) {
                call(x, rows[n], row);
            } else {
                CHECK.holds("this is a call with its answer: " + rows[n], false);
            }
        }
    }

    private static void call(FieldAfterField x, String row, Matcher parts) {
        String name = parts.group(1);
        String[] texts = parts.group(2).split(", ");
        int[] numbers = new int[texts.length];
        for (int n = 0; n < texts.length; n++) {
            numbers[n] = texts[n].equals("FieldAfterField.NONE") ? -1 : Integer.parseInt(texts[n]);
        }
        CHECK.due("how many numbers has " + row, numbers.length, Calls.arity(name));
        CHECK.due(row, Calls.call(x, name, numbers), answerOf(parts.group(3)));
        SHOWN.add(name);
        SHOWN.add(parts.group(3));
    }

    private static long answerOf(String text) {
        switch (text) {
            case "UNKNOWN": return -100001;
            case "OUTSIDE": return -100002;
            case "NOT": return -100003;
            case "FULL": return -100004;
            default: return Long.parseLong(text);
        }
    }

    private static void allIsShown() {
        for (String name : Calls.NAMES) {
            CHECK.holds("an example shows " + name, SHOWN.contains(name));
        }
        for (String refusal : List.of("UNKNOWN", "OUTSIDE", "NOT")) {
            CHECK.holds("an example shows " + refusal, SHOWN.contains(refusal));
        }
    }

    private static void allIsTold(String readme) throws IOException {
        for (String name : Calls.NAMES) {
            callIsTold(readme, name);
        }
        String[] constants = {"`UNKNOWN` | -100001", "`OUTSIDE` | -100002", "`NOT` | -100003", "`FULL` | -100004"};
        for (String constant : constants) {
            CHECK.holds("a row tells of " + constant, readme.contains("\n| " + constant + " | "));
        }
        CHECK.holds("it tells for how many calls an object is used", readme.contains("at most 512 calls"));
        try (Stream<Path> files = Files.list(Path.of("src/test/java"))) {
            files.map(file -> file.getFileName().toString().replace(".java", "")).filter(n -> n.endsWith("Test"))
                    .forEach(n -> CHECK.holds("a row tells of " + n, readme.contains("\n| `" + n + "` | ")));
        }
    }

    /** A call has its row, with the document's own names for its numbers. */
    private static void callIsTold(String readme, String name) throws IOException {
        Matcher row = Pattern.compile("\n\\| `" + name + "\\(([^)]*)\\)` \\| ").matcher(readme);
        boolean isTold = row.find();
        CHECK.holds("a row tells of " + name, isTold);
        String numbers = isTold ? row.group(1) : "";
        CHECK.due("how many numbers has the row of " + name, numbers.split(", ").length, Calls.arity(name));
        if (Files.exists(DOC)) {
            String due = name + "(int " + numbers.replace(", ", ", int ") + ");";
            CHECK.holds("the document has " + due, Files.readString(DOC).contains(" " + due));
        }
    }

    private static void program(String text, String want) throws Exception {
        Path work = Files.createTempDirectory("readme");
        Path source = work.resolve("Example.java");
        Path compiled = work.resolve("Example.class");
        try {
            Files.writeString(source, text);
            int failed = ToolProvider.getSystemJavaCompiler().run(null, null, null, "-cp",
                    System.getProperty("java.class.path"), "-d", work.toString(), source.toString());
            CHECK.due("javac of the first program", failed, 0);
            CHECK.holds("the first program prints what README.md says", failed == 0 && printed(work).equals(want));
        } finally {
            Files.deleteIfExists(compiled);
            Files.deleteIfExists(source);
            Files.deleteIfExists(work);
        }
    }

    private static String printed(Path work) throws Exception {
        PrintStream before = System.out;
        ByteArrayOutputStream seen = new ByteArrayOutputStream();
        try (URLClassLoader loader = new URLClassLoader(new URL[] {work.toUri().toURL()})) {
            System.setOut(new PrintStream(seen, true, StandardCharsets.UTF_8));
            loader.loadClass("Example").getMethod("main", String[].class).invoke(null, (Object) new String[0]);
        } finally {
            System.setOut(before);
        }
        return seen.toString(StandardCharsets.UTF_8).replace(System.lineSeparator(), "\n");
    }
}
