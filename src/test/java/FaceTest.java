import java.io.IOException;
import java.lang.reflect.Constructor;
import java.lang.reflect.Field;
import java.lang.reflect.Method;
import java.lang.reflect.Modifier;
import java.nio.file.Files;
import java.nio.file.Path;
import java.util.Set;
import java.util.TreeSet;

/** The face of the class, word for word, and the rules of LANGUAGE.md that can be seen from the text. */
public final class FaceTest {
    private static final String[] METHODS = {
        "public void lay(int,int) throws java.lang.IllegalArgumentException",
        "public int cells()",
        "public int edges()",
        "public int number(int,int) throws java.lang.IndexOutOfBoundsException,java.lang.IllegalArgumentException",
        "public int mark(int,int) throws java.lang.IndexOutOfBoundsException,java.lang.IllegalArgumentException",
        "public void wipe()",
        "public int markAll()",
        "public int edgeOf(int,int) throws java.lang.IndexOutOfBoundsException",
        "public int lines()",
        "public int ways()",
        "public int broken()",
        "public boolean isAnswer()",
        "public int follows(int) throws java.lang.IndexOutOfBoundsException",
        "public int roundOf(int) throws java.lang.IndexOutOfBoundsException",
        "public int ruleOf(int) throws java.lang.IndexOutOfBoundsException",
        "public int rounds()",
        "public int end()",
        "public int hint()",
        "public int answers()",
        "public long answer(int) throws java.lang.IndexOutOfBoundsException",
        "public boolean isInside(int,int) throws java.lang.IndexOutOfBoundsException",
        "public int proved(int) throws java.lang.IndexOutOfBoundsException,java.lang.IllegalStateException",
        "public int beyondRules() throws java.lang.IllegalStateException",
        "public boolean isNeeded(int) throws java.lang.IndexOutOfBoundsException",
    };
    private static final String[] CONSTANTS = {
        "NONE=-1", "UNKNOWN=0", "LINE=1", "CROSS=2",
        "SOUND=0", "CELL=1", "POINT=2", "LOOP=3", "COLOUR=4", "TORN=5",
    };
    private static final String[] RULED_OUT = {
        "->", "::", "Exact(", "finally", "catch", "synchronized", "assert ", "package ", "System.", "HashMap", "Thread",
        "Object", "@",
    };

    public static void main(String[] args) throws ReflectiveOperationException, IOException {
        shape();
        methods();
        constants();
        text();
        Check.end();
    }

    private static void shape() {
        Check.same("public and final", Modifier.toString(SlitherFence.class.getModifiers()), "public final");
        Constructor<?>[] made = SlitherFence.class.getDeclaredConstructors();
        Check.same("constructors", made.length, 1);
        Check.same("the constructor", made[0].toGenericString(), "public SlitherFence()");
        for (Class<?> inside : SlitherFence.class.getDeclaredClasses()) {
            int modifiers = inside.getModifiers();
            Check.same(inside + " is static", Modifier.isStatic(modifiers), true);
            Check.same(inside + " is seen outside", Modifier.isPublic(modifiers) || Modifier.isProtected(modifiers), false);
        }
    }

    private static void methods() {
        Set<String> want = new TreeSet<>();
        Set<String> names = new TreeSet<>();
        for (String method : METHODS) {
            want.add(method);
            names.add(method.substring(method.substring(0, method.indexOf('(')).lastIndexOf(' ') + 1, method.indexOf('(')));
        }
        Set<String> got = new TreeSet<>();
        for (Method method : SlitherFence.class.getDeclaredMethods()) {
            if (!Modifier.isPrivate(method.getModifiers()) && !method.isSynthetic()) {
                got.add(method.toGenericString().replace("SlitherFence.", ""));
            } else {
                Check.same(method + " bears a public name", names.contains(method.getName()), false);
            }
        }
        Check.same("methods", got.toString(), want.toString());
        for (Class<?> inside : SlitherFence.class.getDeclaredClasses()) {
            for (Method method : inside.getDeclaredMethods()) {
                Check.same(method + " bears a public name", names.contains(method.getName()), false);
            }
        }
    }

    private static void constants() throws IllegalAccessException {
        Set<String> want = new TreeSet<>(Set.of(CONSTANTS));
        Set<String> got = new TreeSet<>();
        for (Field field : SlitherFence.class.getDeclaredFields()) {
            if (!Modifier.isPrivate(field.getModifiers())) {
                Check.same(field.getName(), Modifier.toString(field.getModifiers()), "public static final");
                Check.same(field.getName(), field.getType().getName(), "int");
                got.add(field.getName() + "=" + field.getInt(null));
            }
        }
        Check.same("constants", got.toString(), want.toString());
    }

    private static void text() throws IOException {
        String text = Files.readString(Path.of("src/main/java/SlitherFence.java"));
        for (String word : RULED_OUT) {
            Check.same("the text holds " + word, text.contains(word), false);
        }
        for (String line : text.split("\n")) {
            if (line.startsWith("import ")) {
                Check.same("an import", line, "import java.util.Arrays;");
            }
        }
    }
}
