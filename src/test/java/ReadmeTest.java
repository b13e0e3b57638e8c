import java.io.IOException;
import java.lang.reflect.Method;
import java.nio.file.Files;
import java.nio.file.Path;
import java.util.regex.Matcher;
import java.util.regex.Pattern;

/** The calls that README.md shows answer as it says. */
public final class ReadmeTest {
    private static final Check CHECK = new Check("ReadmeTest");
    private static final Pattern TEXT = Pattern.compile("(?s)```text\n(.*?)```");
    private static final Pattern CALL = Pattern.compile("(?m)^x\\.(\\w+)\\(([^)]*)\\);\\s+// (-?\\d+|true)\\b");
    private static final int SHOWN = 25;

    public static void main(String[] args) throws IOException, ReflectiveOperationException {
        String readme = Files.readString(Path.of("README.md"));
        Matcher text = TEXT.matcher(readme);
        CHECK.due("README shows a text", text.find(), true);
        SiegeInk x = new SiegeInk();
        Check.feed(x, text.group(1));
        int shown = 0;
        Matcher call = CALL.matcher(readme);
        while (call.find()) {
            shown++;
            long due = call.group(3).equals("true") ? 1 : Long.parseLong(call.group(3));
            CHECK.due(call.group(1) + "(" + call.group(2) + ")", answer(x, call.group(1), call.group(2)), due);
        }
        CHECK.due("calls shown", shown, SHOWN);
        CHECK.end();
    }

    private static long answer(SiegeInk x, String name, String list) throws ReflectiveOperationException {
        String[] parts = list.isEmpty() ? new String[0] : list.split(", ");
        Class<?>[] types = new Class<?>[parts.length];
        Object[] args = new Object[parts.length];
        for (int i = 0; i < parts.length; i++) {
            types[i] = int.class;
            args[i] = Integer.valueOf(parts[i]);
        }
        Method method = SiegeInk.class.getMethod(name, types);
        Object answer = method.invoke(x, args);
        return answer instanceof Boolean b ? b ? 1 : 0 : (Integer) answer;
    }
}
