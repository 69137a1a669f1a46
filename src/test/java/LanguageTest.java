import java.io.IOException;
import java.lang.reflect.Field;
import java.lang.reflect.Method;
import java.lang.reflect.Modifier;
import java.nio.file.Files;
import java.nio.file.Path;
import java.util.ArrayList;
import java.util.List;
import java.util.Set;
import java.util.regex.Matcher;
import java.util.regex.Pattern;

/** The rules of ../shared/LANGUAGE.md that can be seen in the class's text or in its members. */
public final class LanguageTest {
    private static final Path CLASS = Path.of("src/main/java/RelationRows.java");

    private static final Set<String> IMPORTS = Set.of("java.util.ArrayList", "java.util.Arrays", "java.util.Iterator",
            "java.util.List", "java.util.NoSuchElementException");
    private static final Set<String> EXCEPTIONS = Set.of("IllegalStateException", "IllegalArgumentException",
            "IndexOutOfBoundsException", "ArithmeticException", "UnsupportedOperationException", "NoSuchElementException",
            "RuntimeException");
    /** What the class uses of the library, each by a line of rule 4; another one is looked up there and added. */
    private static final Set<String> LIBRARY = Set.of("Arrays.fill", "Long.bitCount", "Long.numberOfTrailingZeros",
            "Math.max", "Math.min", "System.arraycopy");
    /** What the Java machine itself throws, and the classes above. */
    private static final String BY_MACHINE = "ArrayIndexOutOfBoundsException|StringIndexOutOfBoundsException"
            + "|IndexOutOfBoundsException|NullPointerException|ArithmeticException|ClassCastException"
            + "|NegativeArraySizeException|ArrayStoreException|RuntimeException|Exception|Throwable|\\w*Error";
    private static final Set<Class<?>> CONSTANTS = Set.of(int.class, long.class, boolean.class, char.class, String.class,
            int[].class, long[].class, char[].class, byte[].class);
    private static final int MOST_LINES = 60;
    private static final int MOST_PARAMETERS = 7;
    private static final int MOST_FIELDS = 20;
    private static final int MOST_CLASSES = 12;

    private static final Check CHECK = new Check();

    private LanguageTest() {
    }

    public static void main(String[] args) throws IOException {
        String text = Files.readString(CLASS);
        String code = withoutCommentsAndTexts(text);
        CHECK.yes("rule 4: signs are 1 to 127", text.chars().allMatch(sign -> sign >= 1 && sign <= 127));
        imports(code);
        library(code);
        words(code);
        exceptions(code);
        members();
        methodLines(text);
        CHECK.end();
    }

    private static String withoutCommentsAndTexts(String text) {
        return text.replaceAll("(?s)/\\*.*?\\*/", "").replaceAll("//.*", "").replaceAll("\"[^\"\n]*\"", "\"\"");
    }

    private static List<String> all(String pattern, String code) {
        List<String> found = new ArrayList<>();
        Matcher matcher = Pattern.compile(pattern).matcher(code);
        while (matcher.find()) {
            found.add(matcher.group(1));
        }
        return found;
    }

    private static void imports(String code) {
        CHECK.no("no package line", code.contains("package "));
        for (String name : all("import ([^;]+);", code)) {
            CHECK.yes("rule 4: import " + name, IMPORTS.contains(name));
        }
    }

    private static void library(String code) {
        for (String name : all("\\b([A-Z]\\w*\\.\\w+)\\(", code)) {
            CHECK.yes("rule 4: " + name, LIBRARY.contains(name));
        }
        CHECK.no("rule 4: java. only in imports", code.replaceAll("import [^;]+;", "").contains("java."));
    }

    private static void words(String code) {
        String[] ruledOut = {"->", "::", "\\bfinally\\b", "\\bsynchronized\\b", "\\bassert\\b", "\\bstatic\\s*\\{",
            "\\w+Exact\\(", "while\\s*\\(true", "for\\s*\\(;;", "[!=]=\\s*\"", "\"\\s*\\+", "\\+\\s*\""};
        for (String word : ruledOut) {
            CHECK.no("rules 2 to 10: " + word, Pattern.compile(word).matcher(code).find());
        }
        for (String caught : all("\\bcatch\\s*\\(([^)]*)\\)", code)) {
            CHECK.no("what the machine throws is caught: " + caught, caught.matches(".*\\b(" + BY_MACHINE + ")\\b.*"));
        }
    }

    /** Rule 6, but for tally(): the document names an exception there that the rule does not list. */
    private static void exceptions(String code) {
        List<String> thrown = all("\\bthrow\\b([^;]*);", code);
        CHECK.yes("the class throws", thrown.size() > 0);
        int byTally = 0;
        for (String one : thrown) {
            String name = one.replaceAll("^ new (\\w+)\\((\"\")?\\)$", "$1");
            byTally += name.equals("ArrayIndexOutOfBoundsException") ? 1 : 0;
            CHECK.yes("rule 6: throw" + one, EXCEPTIONS.contains(name) || name.equals("ArrayIndexOutOfBoundsException"));
        }
        CHECK.same("only tally throws what the rule does not list", byTally, 1);
        CHECK.no("rule 6: no throw in the constructor",
                code.replaceAll("(?s).*public RelationRows\\(int things\\)(.*?)\n    }.*", "$1").contains("throw"));
    }

    private static void members() {
        int own = 0;
        for (Field field : RelationRows.class.getDeclaredFields()) {
            if (Modifier.isStatic(field.getModifiers())) {
                CHECK.yes("rule 5: " + field.getName() + " is final", Modifier.isFinal(field.getModifiers()));
                CHECK.yes("rule 5: the type of " + field.getName(), CONSTANTS.contains(field.getType()));
            } else {
                own++;
            }
        }
        CHECK.yes("rule 11: fields", own <= MOST_FIELDS);
        for (Method method : RelationRows.class.getDeclaredMethods()) {
            CHECK.yes("rule 11: parameters of " + method.getName(), method.getParameterCount() <= MOST_PARAMETERS);
        }
        Class<?>[] inside = RelationRows.class.getDeclaredClasses();
        CHECK.yes("rule 11: classes", inside.length < MOST_CLASSES);
        for (Class<?> one : inside) {
            int of = one.getModifiers();
            CHECK.no("rule 1: " + one.getName() + " is open", Modifier.isPublic(of) || Modifier.isProtected(of));
        }
    }

    private static void methodLines(String text) {
        int begin = 0;
        String[] lines = text.split("\n");
        for (int at = 0; at < lines.length; at++) {
            if (lines[at].matches("    (public|private) .*\\{")) {
                begin = at;
            }
            if (lines[at].equals("    }")) {
                CHECK.yes("rule 11: lines of" + lines[begin], at - begin < MOST_LINES);
            }
        }
        CHECK.yes("methods were found", begin > 0);
    }
}
