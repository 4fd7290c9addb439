import java.io.IOException;
import java.lang.reflect.Constructor;
import java.lang.reflect.Field;
import java.lang.reflect.Method;
import java.lang.reflect.Modifier;
import java.nio.file.Files;
import java.nio.file.Path;
import java.util.ArrayList;
import java.util.List;
import java.util.Set;
import java.util.regex.Matcher;
import java.util.regex.Pattern;

/** Those rules of LANGUAGE.md that can be read off the source or the compiled class. */
final class LanguageTest {
    private static final Expect e = new Expect();
    private static final Path SOURCE = Path.of("src/main/java/AutoTeller.java");
    private static final Set<Class<?>> CONSTANTS = Set.of(
            int.class, long.class, boolean.class, char.class, String.class,
            int[].class, long[].class, char[].class, byte[].class);
    /** What the class uses of rule 4's list, which has more: add here what it comes to use. */
    private static final Set<String> LIBRARY = Set.of("System.arraycopy", "Arrays.fill", "Math.max");
    private static final int MOST_LINES = 60;
    private static final int MOST_PARAMETERS = 7;
    private static final int MOST_CLASSES = 12;
    private static final int MOST_FIELDS = 20;

    public static void main(String[] args) throws IOException {
        String code = withoutComments(Files.readString(SOURCE));
        noWordThatIsRuledOut(code);
        onlyTheLibraryOfTheList(code);
        shortMethodsThatMakeNothing(code);
        for (Class<?> type : classes()) {
            fieldsOf(type);
            parametersOf(type);
        }
        e.due("classes, " + MOST_CLASSES + " at most", true, classes().size() <= MOST_CLASSES);
        e.end();
    }

    private static String withoutComments(String source) {
        return source.replaceAll("(?s)/\\*.*?\\*/", "").replaceAll("//[^\n]*", "");
    }

    /** The document names no exception, so that the class has no throw either (rules 2, 5, 6). */
    private static void noWordThatIsRuledOut(String code) {
        String[] words = {
            "\\bpackage\\b", "\\btry\\b", "\\bcatch\\b", "\\bfinally\\b", "\\bthrow", "\\bsynchronized\\b",
            "\\bassert\\b", "\\bprotected\\b", "->", "::", "\\bstatic\\s*\\{", "@", "\"", "\\bfloat\\b", "\\bdouble\\b",
            "\\bequals\\b", "\\bhashCode\\b", "\\btoString\\b",
        };
        for (String word : words) {
            e.due("in the source: " + word, false, Pattern.compile(word).matcher(code).find());
        }
    }

    /** Rule 4. */
    private static void onlyTheLibraryOfTheList(String code) {
        Matcher imports = Pattern.compile("(?m)^import ([^;]*);").matcher(code);
        while (imports.find()) {
            e.due("import " + imports.group(1), true, imports.group(1).equals("java.util.Arrays"));
        }
        List<String> own = new ArrayList<>();
        for (Class<?> type : classes()) {
            own.add(type.getSimpleName());
        }
        Matcher uses = Pattern.compile("\\b([A-Z]\\w*[a-z]\\w*)\\.(\\w+)").matcher(code);
        while (uses.find()) {
            boolean allowed = own.contains(uses.group(1)) || LIBRARY.contains(uses.group());
            e.due(uses.group() + " is in the list", true, allowed);
        }
    }

    /** Rules 11 and 12: rows are made with the object, by a constructor or a field, and used again. */
    private static void shortMethodsThatMakeNothing(String code) {
        Pattern begin = Pattern.compile("^( {4}| {8})(?!(?:private )?static final class)(\\S.*\\)) \\{$");
        String[] lines = code.split("\n");
        int methods = 0;
        for (int k = 0; k < lines.length; k++) {
            Matcher method = begin.matcher(lines[k]);
            if (!method.matches()) {
                continue;
            }
            methods++;
            String name = method.group(2);
            boolean makesAnObject = name.matches("(public )?[A-Z]\\w*\\(.*\\)");
            int first = k;
            while (k < lines.length && !lines[k].equals(method.group(1) + "}")) {
                boolean made = lines[k].matches(".*\\b(new|clone|copyOf)\\b.*");
                e.due(name + " makes no object: " + lines[k].trim(), false, made && !makesAnObject);
                k++;
            }
            e.due(name + " has few lines", true, k - first <= MOST_LINES);
        }
        e.due("methods were found", true, methods >= 23);
    }

    private static List<Class<?>> classes() {
        List<Class<?>> all = new ArrayList<>();
        all.add(AutoTeller.class);
        for (Class<?> inside : AutoTeller.class.getDeclaredClasses()) {
            all.add(inside);
        }
        return all;
    }

    /** Rules 5 and 11. */
    private static void fieldsOf(Class<?> type) {
        int own = 0;
        for (Field field : type.getDeclaredFields()) {
            if (Modifier.isStatic(field.getModifiers())) {
                e.due("final: " + field, true, Modifier.isFinal(field.getModifiers()));
                e.due("a constant: " + field, true, CONSTANTS.contains(field.getType()));
            } else {
                own++;
            }
        }
        e.due("few fields: " + type, true, own <= MOST_FIELDS);
    }

    /** Rule 11. */
    private static void parametersOf(Class<?> type) {
        for (Method method : type.getDeclaredMethods()) {
            e.due("few parameters: " + method, true, method.getParameterCount() <= MOST_PARAMETERS);
        }
        for (Constructor<?> constructor : type.getDeclaredConstructors()) {
            e.due("few parameters: " + constructor, true, constructor.getParameterCount() <= MOST_PARAMETERS);
        }
    }
}
