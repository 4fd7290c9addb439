import java.io.IOException;
import java.lang.reflect.Method;
import java.lang.reflect.Modifier;
import java.nio.file.Files;
import java.nio.file.Path;
import java.util.TreeSet;
import java.util.regex.Matcher;
import java.util.regex.Pattern;

/** The examples of README.md, run as they are written there: each comment begins with the answer that is due. */
final class ReadmeTest {
    private static final Expect e = new Expect();
    private static final Pattern MADE = Pattern.compile("AutoTeller x = new AutoTeller\\(\\);");
    private static final Pattern CALL = Pattern.compile("x\\.(\\w+)\\(([\\d, -]*)\\); *// (true|false|-?\\d+)\\b.*");

    public static void main(String[] args) throws IOException, ReflectiveOperationException {
        String text = Files.readString(Path.of("README.md"));
        runExamples(text);
        lookForTheFace(text);
        e.end();
    }

    private static void runExamples(String text) throws ReflectiveOperationException {
        AutoTeller x = null;
        boolean inExample = false;
        int calls = 0;
        for (String line : text.split("\n")) {
            if (line.startsWith("```")) {
                inExample = line.equals("```java");
            } else if (inExample && MADE.matcher(line).matches()) {
                x = new AutoTeller();
            } else if (inExample && !line.isBlank()) {
                Matcher call = CALL.matcher(line);
                boolean readable = x != null && call.matches();
                e.due("a call with its answer: " + line, true, readable);
                if (readable) {
                    e.due(line, number(call.group(3)), answer(x, call.group(1), call.group(2)));
                    calls++;
                }
            }
        }
        e.due("there are examples", true, calls > 0);
    }

    private static long answer(AutoTeller x, String name, String arguments) throws ReflectiveOperationException {
        String[] given = arguments.isBlank() ? new String[0] : arguments.split(", *");
        for (Method method : AutoTeller.class.getMethods()) {
            Class<?>[] types = method.getParameterTypes();
            if (method.getName().equals(name) && types.length == given.length) {
                Object[] values = new Object[given.length];
                for (int k = 0; k < given.length; k++) {
                    values[k] = types[k] == long.class ? (Object) Long.valueOf(given[k]) : Integer.valueOf(given[k]);
                }
                return number(String.valueOf(method.invoke(x, values)));
            }
        }
        throw new NoSuchMethodException(name + " of " + given.length);
    }

    /** Each call of the face is told, and no call that is not there. */
    private static void lookForTheFace(String text) {
        TreeSet<String> face = new TreeSet<>();
        for (Method method : AutoTeller.class.getDeclaredMethods()) {
            if (Modifier.isPublic(method.getModifiers())) {
                face.add(method.getName());
            }
        }
        TreeSet<String> told = new TreeSet<>();
        Matcher row = Pattern.compile("(?m)^\\| `(\\w+)\\([\\w, ]*\\)` \\|").matcher(text);
        while (row.find()) {
            told.add(row.group(1));
        }
        e.due("the calls that README.md tells, " + told + ", are those of the face", true, told.equals(face));
    }

    private static long number(String answer) {
        return answer.equals("true") ? 1 : answer.equals("false") ? 0 : Long.parseLong(answer);
    }
}
