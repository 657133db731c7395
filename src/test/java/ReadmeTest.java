import java.io.IOException;
import java.lang.reflect.InvocationTargetException;
import java.lang.reflect.Method;
import java.nio.file.Files;
import java.nio.file.Path;
import java.util.Set;
import java.util.TreeSet;
import java.util.regex.Matcher;
import java.util.regex.Pattern;

/** The calls that README.md shows, one by one on one object: each answers as the page says. */
public final class ReadmeTest {
    private static final String MAKES = "KitchenSiege siege = new KitchenSiege();";
    private static final Pattern CALL = Pattern.compile("siege\\.(\\w+)\\(([^)]*)\\); +// (-?\\d+)(: .*)?");
    private static final Pattern TYPES =
        Pattern.compile("for \\(char c : \"([^\"]*)\"\\.toCharArray\\(\\)\\) \\{ siege\\.type\\(c\\); \\}");
    private static final int SHOWN_AT_LEAST = 50;
    private static final Check CHECK = new Check();
    private static final Set<String> SHOWN = new TreeSet<>();
    private static KitchenSiege siege;
    private static int calls;

    private ReadmeTest() {
    }

    public static void main(String[] args) throws IOException, ReflectiveOperationException {
        CHECK.part("README.md");
        boolean code = false;
        for (String line : Files.readAllLines(Path.of("README.md"))) {
            if (line.startsWith("```")) {
                code = line.equals("```java");
            } else if (code && !line.isBlank() && !line.startsWith("//")) {
                shown(line);
            }
        }
        CHECK.holds("calls are shown: " + calls, calls >= SHOWN_AT_LEAST);
        for (Method m : KitchenSiege.class.getDeclaredMethods()) {
            boolean told = !java.lang.reflect.Modifier.isPublic(m.getModifiers()) || SHOWN.contains(m.getName());
            CHECK.holds(m.getName() + " is shown", told);
        }
        CHECK.end();
    }

    private static void shown(String line) throws ReflectiveOperationException {
        Matcher call = CALL.matcher(line);
        Matcher types = TYPES.matcher(line);
        if (line.equals(MAKES)) {
            siege = new KitchenSiege();
        } else if (types.matches()) {
            Towns.type(siege, types.group(1));
        } else {
            CHECK.holds("'" + line + "' is a call with its answer", call.matches());
            if (call.matches()) {
                ask(call);
            }
        }
    }

    private static void ask(Matcher call) throws ReflectiveOperationException {
        String[] told = call.group(2).isEmpty() ? new String[0] : call.group(2).split(", ");
        Object[] values = new Object[told.length];
        Class<?>[] types = new Class<?>[told.length];
        for (int i = 0; i < told.length; i++) {
            values[i] = value(told[i]);
            types[i] = int.class;
        }
        Method method = KitchenSiege.class.getMethod(call.group(1), types);
        SHOWN.add(method.getName());
        calls++;
        try {
            long answer = ((Number) method.invoke(siege, values)).longValue();
            CHECK.due(method.getName() + "(" + call.group(2) + ")", answer, Long.parseLong(call.group(3)));
        } catch (InvocationTargetException e) {
            CHECK.holds(method.getName() + " throws nothing: " + e.getCause(), false);
        }
    }

    private static int value(String told) {
        if (told.equals("KitchenSiege.NONE")) {
            return KitchenSiege.NONE;
        }
        return told.charAt(0) == '\'' ? told.charAt(1) : Integer.parseInt(told);
    }
}
