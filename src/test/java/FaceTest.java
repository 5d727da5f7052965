import java.lang.reflect.Constructor;
import java.lang.reflect.Field;
import java.lang.reflect.Member;
import java.lang.reflect.Method;
import java.lang.reflect.Modifier;
import java.util.Arrays;
import java.util.Set;
import java.util.TreeSet;

/** The public face, and rules 1 and 5 of LANGUAGE.md as far as they show in the compiled class. */
public final class FaceTest {
    private static final String[] METHODS = {
        "boolean mode(int)",
        "boolean order(int)",
        "int consumer(int, int, int, int) IllegalArgumentException IllegalStateException",
        "int ask(int, boolean) IndexOutOfBoundsException",
        "int tick()",
        "int ticks(int) IllegalArgumentException",
        "boolean fail(int, int)",
        "boolean start(int)",
        "boolean trip(int)",
        "boolean stick(int, boolean)",
        "boolean shore(boolean, int)",
        "boolean takeShore()",
        "boolean tie(boolean)",
        "int bus(int, int) IndexOutOfBoundsException",
        "int set(int, int) IndexOutOfBoundsException",
        "int look(int, int) IndexOutOfBoundsException",
        "int event(int, int) IndexOutOfBoundsException",
        "int count(int)",
    };

    public static void main(String[] args) {
        Check.same("NONE", ShipPower.NONE, -1);
        classItself();
        methods();
        constructors();
        fields();
        Check.end("FaceTest");
    }

    private static void classItself() {
        int modifiers = ShipPower.class.getModifiers();
        Check.yes("public", Modifier.isPublic(modifiers));
        Check.yes("final", Modifier.isFinal(modifiers));
        Check.yes("without a package", ShipPower.class.getPackageName().isEmpty());
        for (Class<?> inside : ShipPower.class.getDeclaredClasses()) {
            int own = inside.getModifiers();
            Check.yes(inside + " is static", Modifier.isStatic(own));
            Check.no(inside + " is hidden", Modifier.isPublic(own) || Modifier.isProtected(own));
        }
    }

    private static void methods() {
        Set<String> due = new TreeSet<>(Arrays.asList(METHODS));
        Set<String> got = new TreeSet<>();
        Set<String> names = new TreeSet<>();
        for (Method m : ShipPower.class.getDeclaredMethods()) {
            if (Modifier.isPublic(m.getModifiers())) {
                got.add(written(m));
                names.add(m.getName());
            }
        }
        Check.yes("the methods are " + got, got.equals(due));
        for (Method m : ShipPower.class.getDeclaredMethods()) {
            if (!Modifier.isPublic(m.getModifiers())) {
                hidden(m);
                Check.no(m + " bears a public name", names.contains(m.getName()));
            }
        }
    }

    private static String written(Method m) {
        StringBuilder text = new StringBuilder(m.getReturnType().getSimpleName());
        text.append(' ').append(m.getName()).append('(');
        String comma = "";
        for (Class<?> p : m.getParameterTypes()) {
            text.append(comma).append(p.getSimpleName());
            comma = ", ";
        }
        text.append(')');
        for (Class<?> e : m.getExceptionTypes()) {
            text.append(' ').append(e.getSimpleName());
        }
        return text.toString();
    }

    private static void constructors() {
        Constructor<?>[] all = ShipPower.class.getDeclaredConstructors();
        Check.same("constructors", all.length, 1);
        Check.same("parameters of it", all[0].getParameterCount(), 0);
        Check.yes("a public one", Modifier.isPublic(all[0].getModifiers()));
    }

    private static void fields() {
        for (Field f : ShipPower.class.getDeclaredFields()) {
            if (f.getName().equals("NONE")) {
                Check.yes("NONE is public", Modifier.isPublic(f.getModifiers()));
                Check.yes("NONE is a constant", Modifier.isFinal(f.getModifiers()));
            } else {
                hidden(f);
            }
            if (Modifier.isStatic(f.getModifiers())) {
                Check.yes(f + " is final", Modifier.isFinal(f.getModifiers()));
            }
        }
    }

    private static void hidden(Member m) {
        Check.yes(m + " is private", m.isSynthetic() || Modifier.isPrivate(m.getModifiers()));
    }
}
