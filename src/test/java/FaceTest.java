import java.lang.reflect.Constructor;
import java.lang.reflect.Field;
import java.lang.reflect.Method;
import java.lang.reflect.Modifier;
import java.util.ArrayList;
import java.util.HashSet;
import java.util.List;
import java.util.Set;
import java.util.TreeSet;

/** The public face, and rules 1 and 5 of LANGUAGE.md. */
public final class FaceTest {
    private static final Due due = new Due();

    public static void main(String[] args) {
        due.yes("public", Modifier.isPublic(CommitLog.class.getModifiers()));
        due.yes("final", Modifier.isFinal(CommitLog.class.getModifiers()));
        constructors();
        methods();
        fields();
        due.end();
    }

    private static void constructors() {
        Constructor<?>[] all = CommitLog.class.getDeclaredConstructors();
        due.is("constructors", all.length, 1);
        due.yes("public constructor", Modifier.isPublic(all[0].getModifiers()));
        due.is("its parameters", all[0].getParameterCount(), 0);
    }

    private static void methods() {
        Set<String> want = new TreeSet<>(List.of("boolean write 3", "int read 2", "int disk 2", "boolean dirty 1",
            "boolean commit 0", "boolean revert 0", "boolean cut 2", "boolean start 1", "int state 1"));
        Set<String> got = new TreeSet<>();
        Set<String> open = new HashSet<>();
        List<String> hidden = new ArrayList<>();
        for (Method m : CommitLog.class.getDeclaredMethods()) {
            if (Modifier.isPrivate(m.getModifiers())) {
                hidden.add(m.getName());
                continue;
            }
            due.yes("public " + m, Modifier.isPublic(m.getModifiers()) && !Modifier.isStatic(m.getModifiers()));
            for (Class<?> p : m.getParameterTypes()) {
                due.yes("int parameters of " + m, p == int.class);
            }
            got.add(m.getReturnType() + " " + m.getName() + " " + m.getParameterCount());
            open.add(m.getName());
        }
        due.yes("methods are " + got, got.equals(want));
        for (String name : hidden) {
            due.no("private method with a public one's name " + name, open.contains(name));
        }
    }

    private static void fields() {
        for (Field f : CommitLog.class.getDeclaredFields()) {
            int m = f.getModifiers();
            if (f.getName().equals("NONE")) {
                due.yes("NONE", Modifier.isPublic(m) && Modifier.isStatic(m) && f.getType() == int.class);
            } else {
                due.yes("private " + f, Modifier.isPrivate(m));
            }
            due.yes("static is final " + f, !Modifier.isStatic(m) || Modifier.isFinal(m));
        }
    }
}
