import java.lang.reflect.Constructor;
import java.lang.reflect.Field;
import java.lang.reflect.Method;
import java.lang.reflect.Modifier;
import java.nio.file.Files;
import java.nio.file.Path;
import java.util.Set;
import java.util.TreeSet;
import java.util.regex.Matcher;
import java.util.regex.Pattern;

/** The public face is the document's, no more and no less (LANGUAGE.md, rule 1). */
public final class FaceTest {
    private static final Check CHECK = new Check();

    public static void main(String[] args) throws Exception {
        members();
        classes();
        CHECK.end();
    }

    private static void members() throws Exception {
        Set<String> due = new TreeSet<>();
        Matcher m = Pattern.compile("^    public (int|long) (\\w+)\\(([^)]*)\\)( throws [\\w, ]+)?;", Pattern.MULTILINE)
            .matcher(Files.readString(Path.of("../shared/DOC.md")));
        while (m.find()) {
            int told = m.group(3).isEmpty() ? 0 : m.group(3).split(",").length;
            due.add(m.group(1) + " " + m.group(2) + " " + told);
        }
        CHECK.due("methods of the document", due.size(), 72);
        Set<String> got = new TreeSet<>();
        Set<String> hidden = new TreeSet<>();
        for (Method method : CornerMaps.class.getDeclaredMethods()) {
            if (Modifier.isPublic(method.getModifiers())) {
                got.add(method.getReturnType() + " " + method.getName() + " " + method.getParameterCount());
            } else {
                CHECK.due(method + " is private", Modifier.isPrivate(method.getModifiers()) ? 1 : 0, 1);
                hidden.add(method.getName());
            }
        }
        CHECK.due(got + " for " + due, got.equals(due) ? 1 : 0, 1);
        for (String face : got) {
            CHECK.due("a private " + face, hidden.contains(face.split(" ")[1]) ? 1 : 0, 0);
        }
        for (Field field : CornerMaps.class.getDeclaredFields()) {
            boolean constant = field.getName().equals("NONE") || field.getName().equals("NO");
            CHECK.due(field + " is private", Modifier.isPrivate(field.getModifiers()) ? 1 : 0, constant ? 0 : 1);
            if (Modifier.isStatic(field.getModifiers())) {
                CHECK.due(field + " is final", Modifier.isFinal(field.getModifiers()) ? 1 : 0, 1);
            }
        }
        Constructor<?>[] constructors = CornerMaps.class.getDeclaredConstructors();
        CHECK.due("constructors", constructors.length, 1);
        CHECK.due("of nothing", constructors[0].getParameterCount(), 0);
        CHECK.due("final", Modifier.isFinal(CornerMaps.class.getModifiers()) ? 1 : 0, 1);
    }

    private static void classes() {
        Class<?>[] inside = CornerMaps.class.getDeclaredClasses();
        CHECK.due("at most twelve classes", inside.length < 12 ? 1 : 0, 1);
        for (Class<?> c : inside) {
            CHECK.due(c + " is static", Modifier.isStatic(c.getModifiers()) ? 1 : 0, 1);
            CHECK.due(c + " is not public", Modifier.isPublic(c.getModifiers()) ? 1 : 0, 0);
            int fields = 0;
            for (Field field : c.getDeclaredFields()) {
                fields += Modifier.isStatic(field.getModifiers()) ? 0 : 1;
            }
            CHECK.due(c + " has some twenty fields at most", fields <= 20 ? 1 : 0, 1);
        }
    }
}
