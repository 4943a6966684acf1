import java.io.IOException;
import java.lang.reflect.Constructor;
import java.lang.reflect.Field;
import java.lang.reflect.Method;
import java.lang.reflect.Modifier;
import java.nio.file.Files;
import java.nio.file.Path;
import java.util.Set;
import java.util.TreeSet;
import java.util.regex.Matcher;
import java.util.regex.Pattern;

/** The public face of the document, and the rules of LANGUAGE.md that a look at the class or its text can tell. */
public final class FaceTest {
    private static final Check CHECK = new Check("FaceTest");
    private static final Set<String> FACE = Set.of(
        "int layer(int, int, int, int, int)", "boolean drains(boolean, boolean, int)", "int load(int, int)",
        "int run(int)", "long sunk(int)", "int told(int, int)", "long out()", "boolean balance()", "long end()",
        "int share()", "int until(int)", "int surcharge(int, int)", "int read(int, long)", "long foretold(int)",
        "int off(long)", "int count(int)");
    private static final String[] REFUSED = {
        "throw", "try", "catch", "synchronized", "assert", "import", "package", "instanceof", "->", "::",
        "Exact", "Object", "protected", "System", "Thread", "Random", "volatile", "native",
    };

    public static void main(String[] args) throws IOException {
        methods();
        constructorsAndConstants();
        classesInside();
        fields();
        text();
        CHECK.finish();
    }

    private static String written(Method m) {
        StringBuilder s = new StringBuilder(m.getReturnType().getName()).append(' ').append(m.getName()).append('(');
        String gap = "";
        for (Class<?> c : m.getParameterTypes()) {
            s.append(gap).append(c.getName());
            gap = ", ";
        }
        return s.append(')').toString();
    }

    private static void methods() {
        Set<String> found = new TreeSet<>();
        Set<String> names = new TreeSet<>();
        for (Method m : SettleLayers.class.getDeclaredMethods()) {
            if (Modifier.isPublic(m.getModifiers())) {
                found.add(written(m));
                names.add(m.getName());
                CHECK.holds(m.getName() + " belongs to objects", !Modifier.isStatic(m.getModifiers()));
            }
        }
        CHECK.holds("methods " + found, found.equals(new TreeSet<>(FACE)));
        for (Method m : SettleLayers.class.getDeclaredMethods()) {
            boolean own = Modifier.isPrivate(m.getModifiers());
            CHECK.holds(m.getName() + " is public or private", own || Modifier.isPublic(m.getModifiers()));
            CHECK.holds(m.getName() + " bears a name of its own", !own || !names.contains(m.getName()));
        }
        for (Class<?> c : SettleLayers.class.getDeclaredClasses()) {
            for (Method m : c.getDeclaredMethods()) {
                CHECK.holds(m.getName() + " inside bears a name of its own", !names.contains(m.getName()));
                CHECK.holds(m.getName() + " takes few parameters", m.getParameterCount() <= 7);
            }
        }
    }

    private static void constructorsAndConstants() {
        int modifiers = SettleLayers.class.getModifiers();
        CHECK.holds("the class is public and final", Modifier.isPublic(modifiers) && Modifier.isFinal(modifiers));
        Constructor<?>[] made = SettleLayers.class.getDeclaredConstructors();
        CHECK.same("constructors", made.length, 1);
        CHECK.holds("the public one", Modifier.isPublic(made[0].getModifiers()) && made[0].getParameterCount() == 0);
        for (Field f : SettleLayers.class.getDeclaredFields()) {
            boolean face = f.getName().equals("BAD");
            int m = f.getModifiers();
            CHECK.holds(f.getName() + " is seen as it should be", face ? Modifier.isPublic(m) : Modifier.isPrivate(m));
            CHECK.holds(f.getName() + " is final if it is static", !Modifier.isStatic(m) || Modifier.isFinal(m));
        }
    }

    private static void classesInside() {
        Class<?>[] inside = SettleLayers.class.getDeclaredClasses();
        CHECK.holds("at most twelve classes", inside.length < 12);
        for (Class<?> c : inside) {
            CHECK.holds(c.getName() + " is static", Modifier.isStatic(c.getModifiers()));
            CHECK.holds(c.getName() + " isn't public", !Modifier.isPublic(c.getModifiers()));
        }
    }

    /** Rules 5 and 11: static fields are constants of plain kinds, a class has at most some twenty other fields. */
    private static void fields() {
        fieldsOf(SettleLayers.class);
        for (Class<?> c : SettleLayers.class.getDeclaredClasses()) {
            fieldsOf(c);
        }
    }

    private static void fieldsOf(Class<?> c) {
        int ofObjects = 0;
        for (Field f : c.getDeclaredFields()) {
            if (Modifier.isStatic(f.getModifiers())) {
                boolean plain = f.getType() == int.class || f.getType() == long.class;
                CHECK.holds(f.getName() + " is a constant", plain && Modifier.isFinal(f.getModifiers()));
            } else {
                ofObjects++;
            }
        }
        CHECK.holds(c.getName() + " has at most twenty fields", ofObjects <= 20);
    }

    private static void text() throws IOException {
        String text = Files.readString(Path.of("src/main/java/SettleLayers.java"));
        String code = text.replaceAll("(?s)/\\*.*?\\*/", "").replaceAll("//[^\n]*", "");
        refusedWords(code);
        shortMethods(code);
        nothingMadeLater(code);
    }

    private static void refusedWords(String code) {
        for (String word : REFUSED) {
            String edge = Character.isLetter(word.charAt(0)) && !word.equals("Exact") ? "\\b" : "";
            CHECK.holds("no " + word, !Pattern.compile(edge + Pattern.quote(word) + edge).matcher(code).find());
        }
    }

    /** Rule 11: from a method's first line to the brace that stands as far in as that line. */
    private static void shortMethods(String code) {
        Matcher m = Pattern.compile("(?m)^( +)[\\w\\[\\] ]+\\([^;)]*\\) \\{\n(?s:.*?)\n\\1\\}$").matcher(code);
        int found = 0;
        while (m.find()) {
            found++;
            CHECK.holds("some sixty lines at most: " + m.group().strip(), m.group().lines().count() <= 60);
        }
        CHECK.holds("methods are found in the text", found > FACE.size());
    }

    /** Rule 12 and the room of a run: what a run makes is what its constructors make, however many calls it has. */
    private static void nothingMadeLater(String code) {
        String rest = code.replaceAll("(?s)    public SettleLayers\\(\\) \\{.*?\n    \\}\n", "")
            .replaceAll("(?m)^        final \\w+\\[\\] \\w+ = new \\w+\\[[\\w +]+\\];$", "");
        CHECK.holds("nothing is made but by constructors", !Pattern.compile("\\bnew\\b").matcher(rest).find());
    }
}
