import java.io.IOException;
import java.lang.reflect.Constructor;
import java.lang.reflect.Field;
import java.lang.reflect.Method;
import java.lang.reflect.Modifier;
import java.nio.file.Files;
import java.nio.file.Path;
import java.util.HashSet;
import java.util.Set;
import java.util.TreeSet;
import java.util.regex.Matcher;
import java.util.regex.Pattern;

/** The public face is the document's, and the source keeps to what LANGUAGE.md forbids by name. */
public final class FaceTest {
    private static final Check CHECK = new Check("FaceTest");
    private static final String[] FACE = {
        "int feed 5", "int back 1", "int read 0", "int place 0", "int man 2", "int good 2", "int debt 2", "int order 3",
        "int letter 2", "boolean lend 3", "int repay 3", "int blot 2", "int water 2", "int days 1", "boolean undo 0",
        "int page 2", "int over 0", "int last 0", "int lives 1", "int aid 3", "int rival 2", "int led 2",
        "int unwritten 3", "int best 2", "int bestOf 2", "int settles 3", "int tell 2", "int forget 0", "int watered 3",
        "boolean hold 1", "boolean restore 1", "int count 1"};
    private static final String[] FORBIDDEN = {
        "\\bthrow\\b", "\\btry\\b", "\\bcatch\\b", "\\bsynchronized\\b", "\\bassert\\b", "->", "::", "\\bprotected\\b",
        "\\bRandom\\b", "\\bThread\\b", "\\bSystem\\.(?!arraycopy)", "Exact\\(", "\\bObject\\b", "\\bdouble\\b",
        "static (?!final|int|long|boolean|String|void)\\w+ \\w+ ?[=;]"};

    public static void main(String[] args) throws IOException {
        members();
        source();
        CHECK.end();
    }

    private static void members() {
        Set<String> due = new TreeSet<>(Set.of(FACE));
        Set<String> names = new HashSet<>();
        Set<String> got = new TreeSet<>();
        for (Method m : SiegeInk.class.getDeclaredMethods()) {
            if (!Modifier.isPrivate(m.getModifiers()) && !m.isSynthetic()) {
                got.add(m.getReturnType() + " " + m.getName() + " " + m.getParameterCount());
                names.add(m.getName());
                CHECK.due(m + " is public and no static one", m.getModifiers(), Modifier.PUBLIC);
            }
        }
        CHECK.due("the methods are " + got, got.equals(due), true);
        for (Field f : SiegeInk.class.getDeclaredFields()) {
            CHECK.due(f + " is private, or NONE", Modifier.isPrivate(f.getModifiers()) || f.getName().equals("NONE"), true);
        }
        Constructor<?>[] constructors = SiegeInk.class.getDeclaredConstructors();
        CHECK.due("one constructor", constructors.length, 1);
        CHECK.due("it is public", constructors[0].getModifiers(), Modifier.PUBLIC);
        CHECK.due("the class is public and final", SiegeInk.class.getModifiers(), Modifier.PUBLIC | Modifier.FINAL);
        CHECK.due("classes inside, about twelve", SiegeInk.class.getDeclaredClasses().length <= 12, true);
        for (Class<?> inside : SiegeInk.class.getDeclaredClasses()) {
            CHECK.due(inside + " is static", Modifier.isStatic(inside.getModifiers()), true);
            for (Method m : inside.getDeclaredMethods()) {
                CHECK.due(m + " bears no public name", names.contains(m.getName()), false);
            }
        }
    }

    private static void source() throws IOException {
        String text = Files.readString(Path.of("src/main/java/SiegeInk.java"));
        String code = text.replaceAll("(?s)/\\*.*?\\*/", " ").replaceAll("//[^\n]*", " ");
        for (String words : FORBIDDEN) {
            Matcher found = Pattern.compile(words).matcher(code);
            CHECK.due("source has " + words, found.find(), false);
        }
        for (int i = 0; i < text.length(); i++) {
            if (text.charAt(i) > 127) {
                CHECK.due("a sign above 127 at " + i, text.charAt(i), 0);
            }
        }
    }
}
