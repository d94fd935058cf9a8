import java.io.IOException;
import java.lang.reflect.Constructor;
import java.lang.reflect.Field;
import java.lang.reflect.Method;
import java.lang.reflect.Modifier;
import java.nio.file.Files;
import java.nio.file.Path;
import java.util.Set;
import java.util.TreeSet;
import java.util.regex.Matcher;
import java.util.regex.Pattern;

/** Those rules of LANGUAGE.md that the source's words and the compiled class show. */
public final class LanguageTest {
    private static final int MOST_PARAMETERS = 7;
    /** The rules say "some twelve", "some twenty", "some sixty": a few more than that is too many. */
    private static final int MOST_CLASSES = 14, MOST_FIELDS = 23, MOST_LINES = 70;
    private static final Set<String> OUTSIDE_CLASSES = Set.of("java.util.Arrays", "java.util.ArrayList",
            "java.util.List", "java.util.Iterator");
    private static final String[] FORBIDDEN = {"\\bthrow\\b", "\\btry\\b", "\\bcatch\\b", "\\bsynchronized\\b",
        "\\bassert\\b", "::", "\\bnative\\b", "Exact\\b", "\\bMath\\.random\\b", "\\bSystem\\.(?!arraycopy\\b)",
        "\\bArrays\\.(?!copyOf\\b|copyOfRange\\b|fill\\b)", "\\bstatic\\s*\\{",
        "\\bnew\\s+\\w+\\s*\\([^()]*\\)\\s*\\{", "^\\s*package\\b"};

    private static final Checks CHECKS = new Checks();

    public static void main(String[] args) throws IOException {
        String source = Files.readString(Path.of("src", "main", "java", "PocketList.java"));
        CHECKS.part("LANGUAGE.md");
        String code = withoutComments(source);
        holdsNoForbiddenWord(code);
        importsOnlyWhatIsListed(code);
        methodsStayShort(code);
        privateNamesAreNotPublicOnes();
        nestedClasses();
        CHECKS.end();
    }

    private static String withoutComments(String source) {
        return source.replaceAll("(?s)/\\*.*?\\*/", "").replaceAll("//[^\\n]*", "");
    }

    private static void holdsNoForbiddenWord(String code) {
        for (String forbidden : FORBIDDEN) {
            Matcher found = Pattern.compile(forbidden).matcher(code);
            CHECKS.no("rules 2 to 13, " + forbidden, found.find());
        }
        String withoutCases = code.replaceAll("\\b(case [^;{}>]*|default )->", "");
        CHECKS.no("rule 2, a lambda", withoutCases.contains("->"));
    }

    private static void importsOnlyWhatIsListed(String code) {
        Matcher imports = Pattern.compile("\\bimport\\s+([^;]+);").matcher(code);
        while (imports.find()) {
            CHECKS.yes("rule 4, import " + imports.group(1), OUTSIDE_CLASSES.contains(imports.group(1)));
        }
    }

    /** A method begins on the line of its brace and ends at a brace of the same indent. */
    private static void methodsStayShort(String code) {
        String[] lines = code.split("\n");
        for (int from = 0; from < lines.length; from++) {
            if (!lines[from].matches("( {4}| {8})[\\w\\[\\], ]+\\([^;=]*\\) \\{")) {
                continue;
            }
            String end = lines[from].replaceAll("\\S.*", "") + "}";
            int to = from;
            while (to < lines.length && !lines[to].equals(end)) {
                to++;
            }
            CHECKS.yes("rule 11, lines of" + lines[from], to - from < MOST_LINES);
        }
    }

    private static void privateNamesAreNotPublicOnes() {
        Set<String> publicNames = new TreeSet<>();
        for (Method method : PocketList.class.getDeclaredMethods()) {
            if (Modifier.isPublic(method.getModifiers())) {
                publicNames.add(method.getName());
            }
        }
        for (Method method : PocketList.class.getDeclaredMethods()) {
            if (!Modifier.isPublic(method.getModifiers())) {
                CHECKS.no("rule 1, a private " + method.getName(), publicNames.contains(method.getName()));
            }
        }
    }

    private static void nestedClasses() {
        Class<?>[] nested = PocketList.class.getDeclaredClasses();
        CHECKS.yes("rule 11, classes " + (nested.length + 1), nested.length + 1 <= MOST_CLASSES);
        checkMembers(PocketList.class);
        for (Class<?> one : nested) {
            CHECKS.yes("rule 1, static " + one, Modifier.isStatic(one.getModifiers()));
            CHECKS.no("rule 1, public " + one, Modifier.isPublic(one.getModifiers()));
            checkMembers(one);
        }
    }

    private static void checkMembers(Class<?> one) {
        int fields = 0;
        for (Field field : one.getDeclaredFields()) {
            if (Modifier.isStatic(field.getModifiers())) {
                CHECKS.yes("rule 5, final " + field, Modifier.isFinal(field.getModifiers()));
            } else {
                fields++;
            }
        }
        CHECKS.yes("rule 11, fields of " + one, fields <= MOST_FIELDS);
        for (Method method : one.getDeclaredMethods()) {
            CHECKS.yes("rule 11, parameters of " + method, method.getParameterCount() <= MOST_PARAMETERS);
        }
        for (Constructor<?> maker : one.getDeclaredConstructors()) {
            CHECKS.yes("rule 11, parameters of " + maker, maker.getParameterCount() <= MOST_PARAMETERS);
        }
    }
}
