import java.io.IOException;
import java.lang.reflect.Field;
import java.lang.reflect.Method;
import java.lang.reflect.Modifier;
import java.nio.file.Files;
import java.nio.file.Path;
import java.util.ArrayList;
import java.util.List;
import java.util.Set;
import java.util.TreeSet;
import java.util.regex.Matcher;
import java.util.regex.Pattern;

/** What LANGUAGE.md asks of the class, as far as a look at its face and its text can tell. */
public final class LanguageTest {
    private static final Check CHECK = new Check();
    private static final String FACE = "answer(int,int,int)int clear()int count(int)int craved(int)int day(int)int "
        + "digest()long dish(int,int,int)int falls(int,int)int forget()int from(int)int game(int)int gate(int,int)int "
        + "image(int)int is(int)int lane(int,int)int least()int moved(int,int)int never()int "
        + "note(int,int,int,int,int)int of(int,int)int order(int,int)int part(int)long rain(int,int,int)int read()int "
        + "sieges(int,int)int smells(int,int,int)int status(int)int street(int,int,int)int town()int "
        + "tryNext(int,int,int)int type(int)int undo()int wind(int,int)int";
    private static final Pattern METHOD = Pattern.compile(
        "^( {4}| {8})(?!for |if |while |switch |return |else )[A-Za-z][A-Za-z\\[\\] ]*\\(.*\\) \\{$");

    private static final Pattern MAKES = Pattern.compile("\\bnew \\w+[\\[(]|\\.clone\\(|\\{ *\\d");

    private LanguageTest() {
    }

    public static void main(String[] args) throws IOException {
        CHECK.part("face");
        face();
        CHECK.part("classes");
        classes();
        CHECK.part("text");
        String text = Files.readString(Path.of("src/main/java/KitchenSiege.java"));
        text(text);
        methods(text.split("\n"));
        CHECK.end();
    }

    private static void face() {
        Set<String> face = new TreeSet<>();
        Set<String> names = new TreeSet<>();
        for (Method m : KitchenSiege.class.getDeclaredMethods()) {
            if (Modifier.isPublic(m.getModifiers())) {
                StringBuilder b = new StringBuilder(m.getName()).append('(');
                for (Class<?> c : m.getParameterTypes()) {
                    b.append(b.charAt(b.length() - 1) == '(' ? "" : ",").append(c.getName());
                }
                face.add(b.append(')').append(m.getReturnType().getName()).toString());
                names.add(m.getName());
            }
        }
        CHECK.holds("the public methods are " + face, String.join(" ", face).equals(FACE));
        for (Method m : KitchenSiege.class.getDeclaredMethods()) {
            int mod = m.getModifiers();
            CHECK.holds(m + " is public or private", Modifier.isPublic(mod) || Modifier.isPrivate(mod));
            CHECK.holds(m + " bears no public name", Modifier.isPublic(mod) || !names.contains(m.getName()));
        }
        for (Field f : KitchenSiege.class.getDeclaredFields()) {
            boolean told = Set.of("NONE", "BAD", "NO", "FULL").contains(f.getName());
            CHECK.holds(f + " is told", told == Modifier.isPublic(f.getModifiers()));
            CHECK.holds(f + " is public or private", told || Modifier.isPrivate(f.getModifiers()));
        }
        CHECK.due("constructors", KitchenSiege.class.getConstructors().length, 1);
        CHECK.holds("the class is final", Modifier.isFinal(KitchenSiege.class.getModifiers()));
        for (Class<?> c : KitchenSiege.class.getDeclaredClasses()) {
            for (Method m : c.getDeclaredMethods()) {
                CHECK.holds(m + " bears no public name", !names.contains(m.getName()));
            }
        }
    }

    private static void classes() {
        List<Class<?>> all = new ArrayList<>(List.of(KitchenSiege.class.getDeclaredClasses()));
        for (Class<?> c : all) {
            int mod = c.getModifiers();
            CHECK.holds(c + " is static, final and private",
                Modifier.isStatic(mod) && Modifier.isFinal(mod) && Modifier.isPrivate(mod));
            CHECK.due("classes in " + c, c.getDeclaredClasses().length, 0);
        }
        all.add(KitchenSiege.class);
        CHECK.holds("twelve classes at most", all.size() <= 12);
        for (Class<?> c : all) {
            int own = 0;
            for (Field f : c.getDeclaredFields()) {
                boolean isStatic = Modifier.isStatic(f.getModifiers());
                own += isStatic ? 0 : 1;
                CHECK.holds(f + " is final", !isStatic || Modifier.isFinal(f.getModifiers()));
            }
            CHECK.holds("twenty fields at most in " + c, own <= 20);
            for (Method m : c.getDeclaredMethods()) {
                CHECK.holds("seven parameters at most in " + m, m.getParameterCount() <= 7);
                CHECK.holds(m + " is the program's own", !m.isSynthetic());
            }
        }
    }

    private static void text(String text) {
        String code = text.replaceAll("(?s)/\\*.*?\\*/", "").replaceAll("//[^\n]*", "")
            .replaceAll("\"[^\"\n]*\"", "\"\"").replaceAll("'[^'\n]'", "' '");
        for (String word : new String[] {"throw", "throws", "try", "catch", "synchronized", "assert", "package", "import",
            "record", "protected", "instanceof", "volatile", "native", "var", "yield", "System.out", "Exact"}) {
            CHECK.holds("no " + word, !Pattern.compile("\\b" + word + "\\b").matcher(code).find());
        }
        CHECK.holds("no lambda, no method reference", !code.contains("->") && !code.contains("::"));
        CHECK.holds("no marks", !code.contains("@"));
        CHECK.holds("no static block", !Pattern.compile("static\\s*\\{").matcher(code).find());
        CHECK.holds("signs 1 to 127", text.chars().allMatch(c -> c > 0 && c < 128));
        Matcher m = Pattern.compile("\\b(System|Math|Integer|Long|Arrays|String)\\.(\\w+)").matcher(code);
        Set<String> told = Set.of("System.arraycopy", "Math.max", "Math.floorMod", "Integer.bitCount");
        while (m.find()) {
            CHECK.holds(m.group() + " is told", told.contains(m.group()));
        }
    }

    /** Methods stay short, and only constructors make objects: what a run makes is then told by its objects alone. */
    private static void methods(String[] lines) {
        int found = 0;
        for (int i = 0; i < lines.length; i++) {
            Matcher m = METHOD.matcher(lines[i]);
            if (!m.find()) {
                continue;
            }
            found++;
            boolean constructor = lines[i].matches(" +(public )?[A-Z]\\w*\\(.*");
            int end = i + 1;
            while (!lines[end].equals(m.group(1) + "}")) {
                CHECK.holds("line " + (end + 1) + " makes nothing", constructor || !MAKES.matcher(lines[end]).find());
                end++;
            }
            CHECK.holds("sixty lines at most from line " + (i + 1), end - i <= 60);
        }
        CHECK.holds("methods were found: " + found, found > 100);
    }
}
