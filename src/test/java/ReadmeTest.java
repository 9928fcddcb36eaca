import java.io.IOException;
import java.lang.reflect.Method;
import java.lang.reflect.Modifier;
import java.nio.file.Files;
import java.nio.file.Path;
import java.util.Set;
import java.util.TreeSet;
import java.util.regex.Matcher;
import java.util.regex.Pattern;

/** What README.md says of each call is what the class answers, and no call of the face is missing there. */
public final class ReadmeTest {
    private static final Pattern ROW = Pattern.compile("(?m)^fair\\.(\\w+)\\(([^)]*)\\); +// (-?\\d+)(:.*)?$");
    private static final Pattern CALL = Pattern.compile("(?m)^fair\\.");

    public static void main(String[] args) throws IOException, ReflectiveOperationException {
        Check c = new Check("ReadmeTest");
        String text = Files.readString(Path.of("README.md"));
        DawnFair fair = new DawnFair();
        Set<String> shown = new TreeSet<>();
        int rows = 0;
        Matcher row = ROW.matcher(text);
        while (row.find()) {
            rows++;
            shown.add(row.group(1));
            c.due(row.group(), answer(fair, row.group(1), numbers(row.group(2))), Long.parseLong(row.group(3)));
        }
        c.due("rows with an answer", rows, CALL.matcher(text).results().count());
        for (Method method : DawnFair.class.getDeclaredMethods()) {
            if (Modifier.isPublic(method.getModifiers())) {
                c.holds(method.getName() + " is shown", shown.contains(method.getName()));
            }
        }
        c.end();
    }

    private static Object[] numbers(String list) {
        return Pattern.compile("-?\\d+").matcher(list).results().map(found -> Integer.valueOf(found.group())).toArray();
    }

    private static long answer(DawnFair fair, String name, Object[] numbers) throws ReflectiveOperationException {
        for (Method method : DawnFair.class.getDeclaredMethods()) {
            if (method.getName().equals(name) && method.getParameterCount() == numbers.length) {
                return ((Number) method.invoke(fair, numbers)).longValue();
            }
        }
        throw new NoSuchMethodException(name + " of " + numbers.length + " numbers");
    }
}
