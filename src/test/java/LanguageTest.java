import java.io.IOException;
import java.lang.reflect.Constructor;
import java.lang.reflect.Field;
import java.lang.reflect.Method;
import java.lang.reflect.Modifier;
import java.nio.file.Files;
import java.nio.file.Path;
import java.util.ArrayList;
import java.util.List;
import java.util.Set;
import java.util.regex.Matcher;
import java.util.regex.Pattern;

/** Those rules of LANGUAGE.md that the program's text and its compiled classes show. */
public final class LanguageTest {
    private static final Check CHECK = new Check();

    private static final int MOST_PARAMETERS = 7;
    private static final int MOST_LINES = 60;
    private static final int MOST_CLASSES = 12;
    private static final int MOST_FIELDS = 20;

    private static final Set<String> IMPORTS = Set.of(
            "java.util.ArrayList", "java.util.Arrays", "java.util.Iterator", "java.util.List",
            "java.util.NoSuchElementException");
    private static final Set<String> EXCEPTIONS = Set.of(
            "IllegalStateException", "IllegalArgumentException", "IndexOutOfBoundsException",
            "ArithmeticException", "UnsupportedOperationException", "NoSuchElementException", "RuntimeException");
    private static final Set<String> LIBRARY = Set.of(
            "System.arraycopy", "Arrays.copyOf", "Arrays.copyOfRange", "Arrays.fill", "Long.bitCount");
    private static final String[] RULED_OUT = {
        "->", "::", "\\bpackage\\b", "\\bsynchronized\\b", "\\bassert\\b", "\\bfinally\\b", "\\bvolatile\\b",
        "\\bnative\\b", "\\bstatic\\s*\\{", "\\bThread\\b", "\\bRandom\\b", "\\bDate\\b", "\\bjava\\.(?!util\\.)",
        "Exact\\b", "\\bstatic\\b[^;{(]*=\\s*new\\b", "\\bimport\\s+static\\b", "\\.\\*;"
    };

    private static final Pattern METHOD = Pattern.compile("^( +)(public|private) [^=;]*\\).*\\{$");

    /** Comments may speak of anything; a text may hold any word, so only its quotes are left. */
    private static String codeOf(String text) {
        String code = text.replaceAll("(?s)/\\*.*?\\*/", "").replaceAll("//[^\n]*", "");
        return code.replaceAll("\"[^\"\n]*\"", "\"\"");
    }

    private static void ruledOut(String code) {
        for (String words : RULED_OUT) {
            CHECK.isFalse("the program has " + words, Pattern.compile(words).matcher(code).find());
        }
    }

    private static void imports(String code) {
        Matcher found = Pattern.compile("import ([\\w.]+);").matcher(code);
        while (found.find()) {
            CHECK.isTrue("import of " + found.group(1), IMPORTS.contains(found.group(1)));
        }
    }

    private static void library(String code) {
        Matcher found = Pattern.compile("\\b(System|Arrays|Long|Integer|Math|Character|Boolean)\\.\\w+").matcher(code);
        while (found.find()) {
            boolean isImport = code.startsWith("java.util.", Math.max(0, found.start() - 10));
            CHECK.isTrue("call of " + found.group(), isImport || LIBRARY.contains(found.group()));
        }
    }

    private static void exceptions(String code) {
        Matcher found = Pattern.compile("\\bthrow\\b([^;]*);").matcher(code);
        int count = 0;
        while (found.find()) {
            Matcher written = Pattern.compile(" new (\\w+)\\((\"\")?\\)").matcher(found.group(1));
            CHECK.isTrue("throw" + found.group(1), written.matches() && EXCEPTIONS.contains(written.group(1)));
            count++;
        }
        CHECK.isTrue("throws were found", count > 0);
    }

    private static void methodLengths(List<String> lines) {
        int methods = 0;
        for (int i = 0; i < lines.size(); i++) {
            Matcher head = METHOD.matcher(lines.get(i));
            if (head.matches()) {
                int end = lines.subList(i, lines.size()).indexOf(head.group(1) + "}");
                CHECK.isTrue("the end of " + lines.get(i), end > 0);
                CHECK.isTrue("at most " + MOST_LINES + " lines: " + lines.get(i), end < MOST_LINES);
                methods++;
            }
        }
        CHECK.isTrue("methods were found", methods > 0);
    }

    private static List<Class<?>> classes() {
        List<Class<?>> all = new ArrayList<>();
        all.add(DiagramBench.class);
        for (int i = 0; i < all.size(); i++) {
            all.addAll(List.of(all.get(i).getDeclaredClasses()));
        }
        return all;
    }

    private static void fields(Class<?> c) {
        int own = 0;
        for (Field f : c.getDeclaredFields()) {
            boolean isStatic = Modifier.isStatic(f.getModifiers());
            CHECK.isTrue(f + " is final, if static", !isStatic || Modifier.isFinal(f.getModifiers()));
            own += isStatic ? 0 : 1;
        }
        CHECK.isTrue(c + " has at most " + MOST_FIELDS + " fields", own <= MOST_FIELDS);
    }

    private static void parameters(Class<?> c) {
        for (Method m : c.getDeclaredMethods()) {
            CHECK.isTrue(m + " takes few", m.getParameterCount() <= MOST_PARAMETERS);
            CHECK.isFalse(m + " is an object's own", Set.of("equals", "hashCode", "toString").contains(m.getName()));
        }
        for (Constructor<?> made : c.getDeclaredConstructors()) {
            CHECK.isTrue(made + " takes few", made.getParameterCount() <= MOST_PARAMETERS);
        }
    }

    private static void insideClasses() {
        List<Class<?>> all = classes();
        CHECK.isTrue("at most " + MOST_CLASSES + " classes", all.size() <= MOST_CLASSES);
        for (Class<?> c : all) {
            int seen = c.getModifiers() & (Modifier.PUBLIC | Modifier.PROTECTED);
            CHECK.equal(c + " is open", seen, c == DiagramBench.class ? Modifier.PUBLIC : 0);
            CHECK.isTrue(c + " is static", c == DiagramBench.class || Modifier.isStatic(c.getModifiers()));
            fields(c);
            parameters(c);
        }
    }

    public static void main(String[] args) throws IOException {
        Path program = Path.of("src/main/java/DiagramBench.java");
        String code = codeOf(Files.readString(program));
        ruledOut(code);
        imports(code);
        library(code);
        exceptions(code);
        methodLengths(Files.readAllLines(program));
        insideClasses();
        CHECK.end();
    }
}
