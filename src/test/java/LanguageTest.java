import java.io.IOException;
import java.lang.reflect.Field;
import java.lang.reflect.Method;
import java.lang.reflect.Modifier;
import java.nio.charset.StandardCharsets;
import java.nio.file.Files;
import java.nio.file.Path;
import java.util.ArrayList;
import java.util.List;
import java.util.Set;
import java.util.TreeSet;
import java.util.regex.Matcher;
import java.util.regex.Pattern;

/** Those rules of ../shared/LANGUAGE.md that can be told from the program's text and its classes. */
public final class LanguageTest {
    private static final Check CHECK = new Check("LanguageTest");
    private static final Set<String> LIBRARY = Set.of("Integer", "Long", "Math", "System", "Arrays", "String",
            "StringBuilder", "ArrayList", "List", "Iterator", "Iterable", "Comparable");
    private static final Pattern LIBRARY_FUNCTION = Pattern.compile(
            "(Integer|Long|Math)\\.[a-z]\\w*\\(|System\\.arraycopy\\(|Arrays\\.(copyOf|copyOfRange|fill)\\("
            + "|List\\.of\\(");
    private static final Pattern METHOD = Pattern.compile(
            "(?m)^ +((?:(?:public|private|static|final) )+)[\\w\\[\\]]+ (\\w+)\\([^)]*\\) \\{");

    /** A method as it stands in the text; its body without the outer braces. */
    private record Written(String modifiers, String name, String body) {
    }

    public static void main(String[] args) throws IOException {
        String text = Files.readString(Path.of("src/main/java/FieldAfterField.java"), StandardCharsets.ISO_8859_1);
        String code = text.replaceAll("(?s)/\\*.*?\\*/", " ").replaceAll("//[^\n]*", " ");
        List<Written> methods = methodsOf(code);
        CHECK.holds("the methods of the program are found", methods.size() > Calls.NAMES.length);
        ruledOutWords(code);
        library(code);
        staticFields();
        recursion(methods);
        sizes(methods);
        objects(methods);
        CHECK.end();
    }

    private static List<Written> methodsOf(String code) {
        List<Written> found = new ArrayList<>();
        Matcher head = METHOD.matcher(code);
        while (head.find()) {
            int open = 1;
            int at = head.end();
            while (open > 0) {
                char c = code.charAt(at++);
                open += c == '{' ? 1 : c == '}' ? -1 : 0;
            }
            found.add(new Written(head.group(1), head.group(2), code.substring(head.end(), at - 1)));
        }
        return found;
    }

    private static List<Class<?>> classes() {
        List<Class<?>> all = new ArrayList<>(List.of(FieldAfterField.class.getDeclaredClasses()));
        all.add(FieldAfterField.class);
        return all;
    }

    private static void ruledOutWords(String code) {
        String[] ruledOut = {"package", "throw", "throws", "try", "catch", "synchronized", "assert", "Thread",
            "Random", "hashCode", "toString", "nanoTime", "currentTimeMillis"};
        for (String word : ruledOut) {
            Matcher found = Pattern.compile("\\b" + word + "\\b").matcher(code);
            CHECK.holds("the program does without " + word, !found.find());
        }
        CHECK.holds("the program has no method reference", !code.contains("::"));
        CHECK.holds("the program has no lambda", !code.contains("->"));
    }

    /** Rule 4: a constant such as Integer.MAX_VALUE does not stand among what may be used. */
    private static void library(String code) {
        Set<String> known = new TreeSet<>(LIBRARY);
        for (Class<?> c : classes()) {
            known.add(c.getSimpleName());
        }
        Matcher name = Pattern.compile("\\b[A-Z]\\w*[a-z]\\w*\\b").matcher(code);
        while (name.find()) {
            CHECK.holds(name.group() + " is a class of the program or one that may be used",
                    known.contains(name.group()));
        }
        Matcher used = Pattern.compile("\\b[A-Z]\\w*[a-z]\\w*\\.\\w+\\(?").matcher(code);
        while (used.find()) {
            CHECK.holds(used.group() + " may be used", LIBRARY_FUNCTION.matcher(used.group()).matches());
            CHECK.holds(used.group() + " does not end in Exact", !used.group().endsWith("Exact("));
        }
    }

    /** Rule 5. */
    private static void staticFields() {
        for (Class<?> c : classes()) {
            for (Field f : c.getDeclaredFields()) {
                boolean isStatic = Modifier.isStatic(f.getModifiers());
                CHECK.holds(c.getSimpleName() + "." + f.getName() + " is a constant, if it is static",
                        !isStatic || Modifier.isFinal(f.getModifiers()) && f.getType() == int.class);
            }
        }
    }

    /** Rule 8: a method that calls itself is private and static. */
    private static void recursion(List<Written> methods) {
        for (Written m : methods) {
            boolean callsItself = Pattern.compile("(?<![\\w.])" + m.name() + "\\(").matcher(m.body()).find();
            CHECK.holds(m.name() + " does not call itself, or is private and static",
                    !callsItself || m.modifiers().contains("private") && m.modifiers().contains("static"));
        }
    }

    /** Rule 11. */
    private static void sizes(List<Written> methods) {
        for (Written m : methods) {
            CHECK.holds(m.name() + " is short", m.body().lines().count() <= 60);
        }
        CHECK.holds("there are at most twelve classes", classes().size() <= 12);
        for (Class<?> c : classes()) {
            int fields = 0;
            for (Field f : c.getDeclaredFields()) {
                fields += Modifier.isStatic(f.getModifiers()) ? 0 : 1;
            }
            CHECK.holds(c.getSimpleName() + " has at most twenty fields", fields <= 20);
            for (Method m : c.getDeclaredMethods()) {
                CHECK.holds(m.getName() + " takes at most seven numbers", m.getParameterCount() <= 7);
            }
        }
    }

    /** Rule 12, and more: what is made is made with the object, so no call makes one. */
    private static void objects(List<Written> methods) {
        for (Written m : methods) {
            Matcher made = Pattern.compile("\\bnew\\b|\\.clone\\(").matcher(m.body());
            CHECK.holds(m.name() + " makes no object", !made.find());
        }
    }
}
