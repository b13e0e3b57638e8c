import java.lang.reflect.InvocationTargetException;
import java.lang.reflect.Method;
import java.util.Arrays;
import java.util.Comparator;
import java.util.Random;

/** Beyond its 512th call an object may answer what it likes, but it neither throws nor goes on for ever. */
public final class BeyondTest {
    private static final Check CHECK = new Check("BeyondTest");
    private static final int[] WILD = {0, 1, 2, 3, 4, 5, 6, 20, 25, 99, 100, 200, 201, 500, 999, 2000, 9999,
        -1, -2, -3, Integer.MAX_VALUE, Integer.MIN_VALUE, Integer.MAX_VALUE - 1, Integer.MIN_VALUE + 1, 1 << 30};
    private static final String TOWN =
        "man a 9999 9999 1 0; man b 0 0 2 9; man c 5 5 9 999; good g 9 999; good h 1 7;"
        + "price g = ink / (soot - store) - bought; dips a = bought * 9999 * 9999 - ink; dips b = 0;"
        + "buys a g = 99; buys b h = if ink < soot then 0 else larder; wants a g = cost * ink; wants c g = 3; faint 0;";

    public static void main(String[] args) {
        wildCalls("");
        wildCalls(TOWN);
        inkWithoutEnd();
        CHECK.end();
    }

    private static void wildCalls(String text) {
        SiegeInk x = Check.town(text);
        callAll(x, 400);
        CHECK.due("MEN are still there", x.count(0) > 0, !text.isEmpty());
    }

    /** Water that is lent on makes room for more, till the DROPS of one wrap. */
    private static void inkWithoutEnd() {
        SiegeInk x = Check.town(TOWN);
        boolean wrapped = false;
        for (int i = 0; i < 300000 && !wrapped; i++) {
            x.water(0, 9999);
            x.lend(0, 1, x.man(0, 0));
            wrapped = x.man(1, 0) < 0;
        }
        CHECK.due("DROPS wrapped", wrapped, true);
        x.hold(2);
        for (Method m : methods()) {
            for (int to = 0; to < 2; to++) {
                Object[] args = new Object[m.getParameterCount()];
                Arrays.fill(args, to);
                if (args.length > 0) {
                    args[0] = 1;
                }
                call(x, m, args);
                x.restore(2);
            }
        }
        callAll(x, 100);
    }

    /** All but read, as an empty tape would leave no town to ask. */
    private static Method[] methods() {
        return Arrays.stream(SiegeInk.class.getMethods())
            .filter(m -> m.getDeclaringClass() == SiegeInk.class && !m.getName().equals("read"))
            .sorted(Comparator.comparing(Method::getName)).toArray(Method[]::new);
    }

    private static void callAll(SiegeInk x, int times) {
        Random random = new Random(7);
        Method[] methods = methods();
        for (int i = 0; i < times; i++) {
            for (Method m : methods) {
                Object[] args = new Object[m.getParameterCount()];
                for (int a = 0; a < args.length; a++) {
                    args[a] = WILD[random.nextInt(random.nextBoolean() ? 4 : WILD.length)];
                }
                call(x, m, args);
            }
        }
    }

    private static void call(SiegeInk x, Method m, Object[] args) {
        String thrown = "";
        try {
            m.invoke(x, args);
        } catch (InvocationTargetException e) {
            thrown = e.getCause().toString();
        } catch (IllegalAccessException e) {
            thrown = e.toString();
        }
        CHECK.due(m.getName() + Arrays.toString(args) + " threw " + thrown, thrown.isEmpty(), true);
    }
}
