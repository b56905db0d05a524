import java.lang.reflect.Constructor;
import java.lang.reflect.Field;
import java.lang.reflect.Method;
import java.lang.reflect.Modifier;
import java.util.ArrayList;
import java.util.Arrays;
import java.util.List;

/** The public face of the document, and what LANGUAGE.md says of the class around it. */
public final class FaceTest {
    private static final Check CHECK = new Check();
    private static final String[] FACE = {
        "int setBars(int, int) IllegalArgumentException IllegalStateException",
        "int setKey(int) IllegalArgumentException",
        "int addVoice() IllegalStateException",
        "int score(int) IndexOutOfBoundsException",
        "int sign(int) IllegalArgumentException",
        "int ticks(int, int) IllegalArgumentException",
        "int addNote(int, int, int, int, int, int, boolean)"
            + " IndexOutOfBoundsException IllegalArgumentException IllegalStateException",
        "int addRest(int, int, int)"
            + " IndexOutOfBoundsException IllegalArgumentException IllegalStateException",
        "int removeLast(int) IndexOutOfBoundsException IllegalStateException",
        "boolean tie(int, int, boolean) IndexOutOfBoundsException IllegalStateException",
        "int element(int, int, int) IndexOutOfBoundsException",
        "int pitch(int, int, int) IndexOutOfBoundsException IllegalStateException",
        "int voice(int, int) IndexOutOfBoundsException",
        "int transpose(int, int) IllegalArgumentException IllegalStateException",
        "int faults()",
        "int interval(int, int, int) IndexOutOfBoundsException IllegalArgumentException",
        "int event(int, int) IndexOutOfBoundsException",
        "int events()",
        "long time(int, int) IllegalArgumentException",
        "double meanTone()",
        "long digest()"};

    private static String names(Class<?>[] types, String between) {
        List<String> names = new ArrayList<>();
        for (Class<?> type : types) {
            names.add(type.getSimpleName());
        }
        return String.join(between, names);
    }

    private static String text(Method m) {
        String call = m.getReturnType() + " " + m.getName() + "(" + names(m.getParameterTypes(), ", ") + ")";
        return (call + " " + names(m.getExceptionTypes(), " ")).trim();
    }

    private static void methods() {
        CHECK.promise("The public face");
        List<String> found = new ArrayList<>();
        List<String> publicNames = new ArrayList<>();
        for (Method m : ScorePress.class.getDeclaredMethods()) {
            if (Modifier.isPublic(m.getModifiers())) {
                found.add(text(m));
                publicNames.add(m.getName());
                CHECK.same(m.getName() + " is static", false, Modifier.isStatic(m.getModifiers()));
            }
        }
        String[] due = FACE.clone();
        Arrays.sort(due);
        found.sort(null);
        CHECK.sameText("the methods", String.join("\n", due), String.join("\n", found));
        for (Method m : ScorePress.class.getDeclaredMethods()) {
            if (!Modifier.isPublic(m.getModifiers())) {
                CHECK.same(m.getName() + " is private", true, Modifier.isPrivate(m.getModifiers()));
                CHECK.same(m.getName() + " is also a public name", false, publicNames.contains(m.getName()));
                CHECK.same(m.getName() + "'s parameters are at most 7", true, m.getParameterCount() <= 7);
            }
        }
    }

    private static void members() {
        CHECK.promise("LANGUAGE.md, rules 1 and 5");
        int classBits = ScorePress.class.getModifiers();
        CHECK.same("public and final", true, Modifier.isPublic(classBits) && Modifier.isFinal(classBits));
        Constructor<?>[] constructors = ScorePress.class.getDeclaredConstructors();
        CHECK.same("constructors", 1, constructors.length);
        CHECK.same("its parameters", 0, constructors[0].getParameterCount());
        CHECK.same("it is public", true, Modifier.isPublic(constructors[0].getModifiers()));
        for (Field f : ScorePress.class.getDeclaredFields()) {
            CHECK.same(f.getName() + " is private", true, Modifier.isPrivate(f.getModifiers()));
            if (Modifier.isStatic(f.getModifiers())) {
                CHECK.same(f.getName() + " is final", true, Modifier.isFinal(f.getModifiers()));
            }
        }
        for (Class<?> inside : ScorePress.class.getDeclaredClasses()) {
            CHECK.same(inside.getName() + " is public or protected", false,
                (inside.getModifiers() & (Modifier.PUBLIC | Modifier.PROTECTED)) != 0);
            for (Field f : inside.getDeclaredFields()) {
                boolean isStatic = Modifier.isStatic(f.getModifiers());
                CHECK.same(f.getName() + " is final if static", true, !isStatic || Modifier.isFinal(f.getModifiers()));
            }
        }
    }

    public static void main(String[] arguments) {
        methods();
        members();
        CHECK.end();
    }
}
