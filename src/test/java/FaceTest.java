import java.io.IOException;
import java.lang.reflect.Constructor;
import java.lang.reflect.Field;
import java.lang.reflect.Method;
import java.lang.reflect.Modifier;
import java.nio.file.Files;
import java.nio.file.Path;
import java.util.Set;
import java.util.TreeSet;
import java.util.regex.Pattern;

/** The public face of the document, and the rules of LANGUAGE.md that a look at the class or its text can tell. */
public final class FaceTest {
    private static final Check CHECK = new Check("FaceTest");
    private static final Set<String> FACE = Set.of(
        "int layer(int, int, int, int, int)", "boolean drains(boolean, boolean, int)", "int load(int, int)",
        "int run(int)", "long sunk(int)", "int told(int, int)", "long out()", "boolean balance()", "long end()",
        "int share()", "int until(int)", "int surcharge(int, int)", "int read(int, long)", "long foretold(int)",
        "int off(long)", "int count(int)");
    private static final String[] REFUSED = {
        "throw", "try", "catch", "synchronized", "assert", "import", "package", "instanceof", "->", "::",
        "Exact", "Object", "protected", "System", "Thread", "Random", "volatile", "native",
    };

    public static void main(String[] args) throws IOException {
        methods();
        constructorsAndConstants();
        classesInside();
        text();
        CHECK.finish();
    }

    private static String written(Method m) {
        StringBuilder s = new StringBuilder(m.getReturnType().getName()).append(' ').append(m.getName()).append('(');
        String gap = "";
        for (Class<?> c : m.getParameterTypes()) {
            s.append(gap).append(c.getName());
            gap = ", ";
        }
        return s.append(')').toString();
    }

    private static void methods() {
        Set<String> found = new TreeSet<>();
        Set<String> names = new TreeSet<>();
        for (Method m : SettleLayers.class.getDeclaredMethods()) {
            if (Modifier.isPublic(m.getModifiers())) {
                found.add(written(m));
                names.add(m.getName());
                CHECK.holds(m.getName() + " belongs to objects", !Modifier.isStatic(m.getModifiers()));
            }
        }
        CHECK.holds("methods " + found, found.equals(new TreeSet<>(FACE)));
        for (Method m : SettleLayers.class.getDeclaredMethods()) {
            boolean own = Modifier.isPrivate(m.getModifiers());
            CHECK.holds(m.getName() + " is public or private", own || Modifier.isPublic(m.getModifiers()));
            CHECK.holds(m.getName() + " bears a name of its own", !own || !names.contains(m.getName()));
        }
        for (Class<?> c : SettleLayers.class.getDeclaredClasses()) {
            for (Method m : c.getDeclaredMethods()) {
                CHECK.holds(m.getName() + " inside bears a name of its own", !names.contains(m.getName()));
                CHECK.holds(m.getName() + " takes few parameters", m.getParameterCount() <= 7);
            }
        }
    }

    private static void constructorsAndConstants() {
        int modifiers = SettleLayers.class.getModifiers();
        CHECK.holds("the class is public and final", Modifier.isPublic(modifiers) && Modifier.isFinal(modifiers));
        Constructor<?>[] made = SettleLayers.class.getDeclaredConstructors();
        CHECK.same("constructors", made.length, 1);
        CHECK.holds("the public one", Modifier.isPublic(made[0].getModifiers()) && made[0].getParameterCount() == 0);
        for (Field f : SettleLayers.class.getDeclaredFields()) {
            boolean face = f.getName().equals("BAD");
            int m = f.getModifiers();
            CHECK.holds(f.getName() + " is seen as it should be", face ? Modifier.isPublic(m) : Modifier.isPrivate(m));
            CHECK.holds(f.getName() + " is final if it is static", !Modifier.isStatic(m) || Modifier.isFinal(m));
        }
    }

    private static void classesInside() {
        Class<?>[] inside = SettleLayers.class.getDeclaredClasses();
        CHECK.holds("at most twelve classes", inside.length < 12);
        for (Class<?> c : inside) {
            CHECK.holds(c.getName() + " is static", Modifier.isStatic(c.getModifiers()));
            CHECK.holds(c.getName() + " isn't public", !Modifier.isPublic(c.getModifiers()));
        }
    }

    private static void text() throws IOException {
        String text = Files.readString(Path.of("src/main/java/SettleLayers.java"));
        String code = text.replaceAll("(?s)/\\*.*?\\*/", "").replaceAll("//[^\n]*", "");
        for (String word : REFUSED) {
            String edge = Character.isLetter(word.charAt(0)) && !word.equals("Exact") ? "\\b" : "";
            CHECK.holds("no " + word, !Pattern.compile(edge + Pattern.quote(word) + edge).matcher(code).find());
        }
    }
}
