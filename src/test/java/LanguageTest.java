import java.io.IOException;
import java.lang.reflect.Executable;
import java.lang.reflect.Field;
import java.lang.reflect.Modifier;
import java.nio.file.Files;
import java.nio.file.Path;
import java.util.ArrayList;
import java.util.Arrays;
import java.util.Collections;
import java.util.HashSet;
import java.util.List;
import java.util.Set;
import java.util.regex.Matcher;
import java.util.regex.Pattern;

/** What of ../shared/LANGUAGE.md shows in the file and in its classes, each with the rule's number. */
public final class LanguageTest {
    private static final Path FILE = Path.of("src/main/java/OnboardingWorks.java");
    private static final Set<String> LIBRARY = Set.of(
            "String", "StringBuilder", "Integer", "Long", "Math", "ArrayList", "List", "Iterator", "Iterable",
            "Comparable", "System", "Arrays");
    private static final Set<String> THROWN = Set.of(
            "IllegalStateException", "IllegalArgumentException", "IndexOutOfBoundsException",
            "ArithmeticException", "UnsupportedOperationException", "NoSuchElementException",
            "RuntimeException");
    private static final Set<Class<?>> STATIC_TYPES = Set.of(
            int.class, long.class, boolean.class, char.class, String.class,
            int[].class, long[].class, char[].class, byte[].class);

    public static void main(String[] args) throws IOException {
        String source = Files.readString(FILE);
        String code = source.replaceAll("(?s)/\\*.*?\\*/", " ").replaceAll("//[^\n]*", " ");
        String bare = code.replaceAll("\"(\\\\.|[^\"\\\\])*\"", "\"\"");
        List<Class<?>> classes = new ArrayList<>();
        collect(OnboardingWorks.class, classes);
        words(bare);
        names(bare, classes);
        exceptions(bare);
        classes(classes);
        Check.end();
    }

    private static void collect(Class<?> type, List<Class<?>> classes) {
        classes.add(type);
        for (Class<?> inside : type.getDeclaredClasses()) {
            collect(inside, classes);
        }
    }

    private static void words(String bare) {
        absent("rule 1, no package line", bare, "\\bpackage\\b");
        absent("rule 2, no lambda, no method reference", bare, "->|::");
        absent("rule 4, none whose name ends in Exact", bare, "Exact\\s*\\(");
        absent("rule 4, signs are 1 to 127", bare, "[^\\x01-\\x7f]");
        absent("rule 5, no static initialiser block", bare, "\\bstatic\\s*\\{");
        absent("rule 6, none of these", bare, "\\b(finally|synchronized|assert|getMessage)\\b");
        absent("rule 6, no equals, hashCode or toString of its own", bare,
                "\\b(boolean equals|int hashCode|String toString)\\b");
        absent("rule 10, texts are not joined by +", bare, "\"\\s*\\+|\\+\\s*\"");
    }

    private static void absent(String rule, String code, String pattern) {
        Matcher found = Pattern.compile(pattern).matcher(code);
        if (found.find()) {
            Check.tell(rule + ": " + found.group());
        }
    }

    /** Rules 3 and 4: no class but its own and what the library's list has. */
    private static void names(String bare, List<Class<?>> classes) {
        Set<String> known = new HashSet<>(LIBRARY);
        known.addAll(THROWN);
        for (Class<?> type : classes) {
            known.add(type.getSimpleName());
        }
        Matcher name = Pattern.compile("\\b[A-Z]\\w*[a-z]\\w*").matcher(bare);
        while (name.find()) {
            if (!known.contains(name.group())) {
                Check.tell("rule 4, not of the library: " + name.group());
            }
        }
    }

    /** Rule 6: each throw makes a new one of the list, with a written text or none. */
    private static void exceptions(String bare) {
        Matcher thrown = Pattern.compile("\\bthrow\\b([^;]*);").matcher(bare);
        Pattern form = Pattern.compile("\\s+new (\\w+)\\((\"\")?\\)");
        while (thrown.find()) {
            Matcher made = form.matcher(thrown.group(1));
            if (!made.matches() || !THROWN.contains(made.group(1))) {
                Check.tell("rule 6, thrown so: " + thrown.group());
            }
        }
    }

    private static void classes(List<Class<?>> classes) {
        if (classes.size() > 12) {
            Check.tell("rule 11, more than twelve classes: " + classes);
        }
        for (Class<?> type : classes) {
            int fields = 0;
            for (Field field : type.getDeclaredFields()) {
                fields += Modifier.isStatic(field.getModifiers()) ? 0 : 1;
                staticField(type, field);
            }
            if (fields > 20) {
                Check.tell("rule 11, more than twenty fields: " + type);
            }
            if (type != OnboardingWorks.class && Modifier.isPublic(type.getModifiers())) {
                Check.tell("rule 1, a public class inside: " + type);
            }
            List<Executable> calls = new ArrayList<>();
            Collections.addAll(calls, type.getDeclaredMethods());
            Collections.addAll(calls, type.getDeclaredConstructors());
            for (Executable call : calls) {
                if (call.getParameterCount() > 7) {
                    Check.tell("rule 11, more than seven parameters: " + call);
                }
            }
        }
    }

    private static void staticField(Class<?> type, Field field) {
        boolean plain = STATIC_TYPES.contains(field.getType()) || type.isEnum();
        boolean fine = Modifier.isFinal(field.getModifiers()) && plain;
        if (Modifier.isStatic(field.getModifiers()) && !field.isSynthetic() && !fine) {
            Check.tell("rule 5, a static field: " + Arrays.asList(type, field));
        }
    }
}
