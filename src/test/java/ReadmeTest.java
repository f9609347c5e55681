import java.lang.reflect.Field;
import java.lang.reflect.Method;
import java.lang.reflect.Modifier;
import java.nio.file.Files;
import java.nio.file.Path;
import java.util.List;
import java.util.regex.Matcher;
import java.util.regex.Pattern;

/** What README.md shows and tells holds: its example's answers, every call, every constant. */
public final class ReadmeTest {
    private static final Pattern CALL =
        Pattern.compile("band\\.(\\w+)\\(([-\\d, ]*)\\); +// (-?\\d+): \\S.*");

    public static void main(String[] args) throws Exception {
        Check c = new Check();
        List<String> lines = Files.readAllLines(Path.of("README.md"));
        example(c, lines);
        everyCall(c, lines);
        everyConstant(c, lines);
        c.end();
    }

    private static void example(Check c, List<String> lines) throws Exception {
        ShadowBand band = new ShadowBand();
        int calls = 0;
        for (String line : lines) {
            if (!line.startsWith("band.")) {
                continue;
            }
            Matcher m = CALL.matcher(line);
            c.hold("a call with its answer: " + line, m.matches());
            if (m.matches()) {
                c.due(line, answer(band, m.group(1), m.group(2)), Integer.parseInt(m.group(3)));
                calls++;
            }
        }
        c.hold("the example has calls", calls > 0);
    }

    private static int answer(ShadowBand band, String name, String numbers) throws Exception {
        String[] parts = numbers.isEmpty() ? new String[0] : numbers.split(", ");
        Class<?>[] types = new Class<?>[parts.length];
        Object[] values = new Object[parts.length];
        for (int i = 0; i < parts.length; i++) {
            types[i] = int.class;
            values[i] = Integer.parseInt(parts[i]);
        }
        Method call = ShadowBand.class.getMethod(name, types);
        return (Integer) call.invoke(band, values);
    }

    private static void everyCall(Check c, List<String> lines) {
        for (Method m : ShadowBand.class.getDeclaredMethods()) {
            if (Modifier.isPublic(m.getModifiers())) {
                c.hold("README tells of " + m.getName(), isTold(lines, "| `" + m.getName() + "("));
            }
        }
    }

    private static void everyConstant(Check c, List<String> lines) throws Exception {
        for (Field f : ShadowBand.class.getDeclaredFields()) {
            if (Modifier.isPublic(f.getModifiers())) {
                String row = "| `" + f.getName() + "` (" + f.getInt(null) + ") |";
                c.hold("README tells of " + f.getName(), isTold(lines, row));
            }
        }
    }

    private static boolean isTold(List<String> lines, String start) {
        for (String line : lines) {
            if (line.startsWith(start)) {
                return true;
            }
        }
        return false;
    }
}
