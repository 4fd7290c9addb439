import java.lang.reflect.Constructor;
import java.lang.reflect.Field;
import java.lang.reflect.Method;
import java.lang.reflect.Modifier;
import java.util.Arrays;
import java.util.TreeSet;

/** The public face of the document, and no member beyond it that could be seen from outside. */
final class FaceTest {
    private static final String[] METHODS = {
        "boolean account(int,long)", "boolean card(int,int,int)", "boolean load(int,int,int)",
        "boolean insert(int)", "boolean pin(int)", "int ask(int)", "boolean eject()", "int take()",
        "boolean timeout()", "int deliver(int)", "int twice(int)", "int lose(int)",
        "boolean poke(int,int,int)", "int letter(int,int)", "boolean cut()", "boolean arm(int)",
        "boolean power()", "int cassette(int,int)", "int mix(int,int)", "long balance(int)",
        "int ofCard(int,int)", "int record(int,int)", "long count(int)",
    };

    public static void main(String[] args) {
        Expect e = new Expect();
        e.due("NONE", -1, AutoTeller.NONE);
        e.due("public final class", Modifier.PUBLIC | Modifier.FINAL, AutoTeller.class.getModifiers());
        TreeSet<String> seen = new TreeSet<>();
        TreeSet<String> hidden = new TreeSet<>();
        for (Method m : AutoTeller.class.getDeclaredMethods()) {
            if (Modifier.isPrivate(m.getModifiers())) {
                hidden.add(m.getName());
            } else {
                e.due("public, not static: " + m, Modifier.PUBLIC, m.getModifiers());
                seen.add(m.getReturnType() + " " + m.getName() + types(m.getParameterTypes()));
            }
        }
        for (Class<?> inside : AutoTeller.class.getDeclaredClasses()) {
            e.due("static: " + inside, true, Modifier.isStatic(inside.getModifiers()));
            e.due("public or protected: " + inside, 0, inside.getModifiers() & (Modifier.PUBLIC | Modifier.PROTECTED));
            for (Method m : inside.getDeclaredMethods()) {
                hidden.add(m.getName());
            }
        }
        e.due("methods of the face, not " + seen, true, seen.equals(new TreeSet<>(Arrays.asList(METHODS))));
        for (String method : METHODS) {
            String name = method.substring(method.indexOf(' ') + 1, method.indexOf('('));
            e.due("a method beside the face named " + name, false, hidden.contains(name));
        }
        for (Field f : AutoTeller.class.getDeclaredFields()) {
            int want = f.getName().equals("NONE") ? Modifier.PUBLIC : Modifier.PRIVATE;
            e.due("who sees the field " + f.getName(), want, f.getModifiers() & (Modifier.PUBLIC | Modifier.PROTECTED | Modifier.PRIVATE));
        }
        Constructor<?>[] constructors = AutoTeller.class.getDeclaredConstructors();
        e.due("constructors", 1, constructors.length);
        e.due("public constructor", Modifier.PUBLIC, constructors[0].getModifiers());
        e.due("parameters of the constructor", 0, constructors[0].getParameterCount());
        e.end();
    }

    private static String types(Class<?>[] parameters) {
        StringBuilder text = new StringBuilder("(");
        for (Class<?> type : parameters) {
            text.append(text.length() > 1 ? "," : "").append(type);
        }
        return text.append(")").toString();
    }
}
