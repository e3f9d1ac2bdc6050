import java.io.IOException;
import java.lang.reflect.InvocationTargetException;
import java.lang.reflect.Method;
import java.lang.reflect.Modifier;
import java.nio.file.Files;
import java.nio.file.Path;
import java.util.regex.Matcher;
import java.util.regex.Pattern;

/** README.md: its example answers what it says, and it names every call. */
public final class ReadmeTest {
    private static final Check CHECK = new Check();
    private static final Pattern CALL = Pattern.compile("^x\\.(\\w+)\\(([^)]*)\\); +// ([-\\w]+)", Pattern.MULTILINE);

    public static void main(String[] args) throws Exception {
        String page = Files.readString(Path.of("README.md"));
        example(page);
        names(page);
        CHECK.end();
    }

    private static void example(String page) throws Exception {
        CornerMaps x = new CornerMaps();
        Matcher m = CALL.matcher(page);
        int calls = 0;
        while (m.find()) {
            String got = ask(x, m.group(1), m.group(2));
            CHECK.due(m.group() + " (it answered " + got + ")", got.equals(m.group(3)) ? 1 : 0, 1);
            calls++;
        }
        CHECK.due("calls of the example", calls, Pattern.compile("^x\\.", Pattern.MULTILINE).matcher(page).results().count());
        CHECK.due("an example", calls > 0 ? 1 : 0, 1);
    }

    private static String ask(CornerMaps x, String name, String told) throws Exception {
        String[] words = told.isEmpty() ? new String[0] : told.split(", ");
        Class<?>[] types = new Class<?>[words.length];
        Object[] boxes = new Object[words.length];
        for (int i = 0; i < words.length; i++) {
            types[i] = int.class;
            boxes[i] = Integer.decode(words[i]);
        }
        Method method = CornerMaps.class.getMethod(name, types);
        try {
            return "" + ((Number) method.invoke(x, boxes)).longValue();
        } catch (InvocationTargetException e) {
            return e.getCause().getClass().getSimpleName();
        }
    }

    private static void names(String page) throws IOException {
        for (Method method : CornerMaps.class.getDeclaredMethods()) {
            if (Modifier.isPublic(method.getModifiers())) {
                CHECK.due("README.md names " + method.getName(), page.contains("`" + method.getName() + "`") ? 1 : 0, 1);
            }
        }
    }
}
