import java.lang.reflect.Constructor;
import java.lang.reflect.Field;
import java.lang.reflect.Method;
import java.lang.reflect.Modifier;
import java.util.HashSet;
import java.util.Set;
import java.util.TreeSet;

/** The public face is the document's. */
public final class FaceTest {
    private static final Check CHECK = new Check("FaceTest");
    private static final String[] FACE = {
        "int feed 5", "int back 1", "int read 0", "int place 0", "int man 2", "int good 2", "int debt 2", "int order 3",
        "int letter 2", "boolean lend 3", "int repay 3", "int blot 2", "int water 2", "int days 1", "boolean undo 0",
        "int page 2", "int over 0", "int last 0", "int lives 1", "int aid 3", "int rival 2", "int led 2",
        "int unwritten 3", "int best 2", "int bestOf 2", "int settles 3", "int tell 2", "int forget 0", "int watered 3",
        "boolean hold 1", "boolean restore 1", "int count 1"};

    public static void main(String[] args) {
        members();
        CHECK.end();
    }

    private static void members() {
        Set<String> due = new TreeSet<>(Set.of(FACE));
        Set<String> names = new HashSet<>();
        Set<String> got = new TreeSet<>();
        for (Method m : SiegeInk.class.getDeclaredMethods()) {
            if (!Modifier.isPrivate(m.getModifiers()) && !m.isSynthetic()) {
                got.add(m.getReturnType() + " " + m.getName() + " " + m.getParameterCount());
                names.add(m.getName());
                CHECK.due(m + " is public and no static one", m.getModifiers(), Modifier.PUBLIC);
            }
        }
        CHECK.due("the methods are " + got, got.equals(due), true);
        for (Field f : SiegeInk.class.getDeclaredFields()) {
            CHECK.due(f + " is private, or NONE", Modifier.isPrivate(f.getModifiers()) || f.getName().equals("NONE"), true);
        }
        Constructor<?>[] constructors = SiegeInk.class.getDeclaredConstructors();
        CHECK.due("one constructor", constructors.length, 1);
        CHECK.due("it is public", constructors[0].getModifiers(), Modifier.PUBLIC);
        CHECK.due("the class is public and final", SiegeInk.class.getModifiers(), Modifier.PUBLIC | Modifier.FINAL);
        CHECK.due("classes inside, about twelve", SiegeInk.class.getDeclaredClasses().length <= 12, true);
        for (Class<?> inside : SiegeInk.class.getDeclaredClasses()) {
            CHECK.due(inside + " is static", Modifier.isStatic(inside.getModifiers()), true);
            for (Method m : inside.getDeclaredMethods()) {
                CHECK.due(m + " bears no public name", names.contains(m.getName()), false);
            }
        }
    }
}
