import java.io.IOException;
import java.lang.reflect.Method;
import java.lang.reflect.Modifier;
import java.nio.file.Files;
import java.nio.file.Path;
import java.util.Set;
import java.util.TreeSet;
import java.util.regex.Matcher;
import java.util.regex.Pattern;

/** README.md: each answer that it shows is the one that the class gives, and no method of the face is left out. */
public final class ReadmeTest {
    private static final Check CHECK = new Check("ReadmeTest");
    private static final String MADE = "SettleLayers ground = new SettleLayers();";
    private static final Pattern CALL = Pattern.compile("ground\\.(\\w+)\\(([^)]*)\\); *// (-?\\d+|true|false): \\S.*");

    public static void main(String[] args) throws ReflectiveOperationException, IOException {
        String readme = Files.readString(Path.of("README.md"));
        answersOfTheExample(readme);
        everyMethodIsTold(readme);
        CHECK.finish();
    }

    private static void answersOfTheExample(String readme) throws ReflectiveOperationException {
        Set<String> shown = new TreeSet<>();
        SettleLayers ground = null;
        for (String line : example(readme)) {
            if (line.equals(MADE)) {
                ground = new SettleLayers();
                continue;
            }
            Matcher call = CALL.matcher(line);
            boolean readable = ground != null && call.matches();
            CHECK.holds("the line shows a call and its answer: " + line, readable);
            if (readable) {
                Method method = named(call.group(1));
                shown.add(method.getName());
                Object got = method.invoke(ground, arguments(method, call.group(2)));
                CHECK.holds(line + " (the class answers " + got + ")", got.toString().equals(call.group(3)));
            }
        }
        for (Method method : SettleLayers.class.getDeclaredMethods()) {
            if (Modifier.isPublic(method.getModifiers())) {
                CHECK.holds("the example shows " + method.getName(), shown.contains(method.getName()));
            }
        }
    }

    private static String[] example(String readme) {
        String opening = "```java\n";
        int begin = readme.indexOf(opening);
        int end = readme.indexOf("\n```", begin + 1);
        CHECK.holds("README.md has an example", begin >= 0 && end > begin);
        return begin >= 0 && end > begin ? readme.substring(begin + opening.length(), end).split("\n") : new String[0];
    }

    private static Method named(String name) {
        for (Method method : SettleLayers.class.getDeclaredMethods()) {
            if (method.getName().equals(name) && Modifier.isPublic(method.getModifiers())) {
                return method;
            }
        }
        throw new IllegalArgumentException("README.md calls " + name + ", which the class has not");
    }

    private static Object[] arguments(Method method, String written) {
        String[] parts = written.isEmpty() ? new String[0] : written.split(", ");
        Class<?>[] types = method.getParameterTypes();
        if (parts.length != types.length) {
            throw new IllegalArgumentException("README.md calls " + method.getName() + "(" + written + ")");
        }
        Object[] read = new Object[parts.length];
        for (int i = 0; i < parts.length; i++) {
            read[i] = argument(types[i], parts[i]);
        }
        return read;
    }

    private static Object argument(Class<?> type, String written) {
        if (type == boolean.class) {
            return Boolean.valueOf(written);
        }
        if (type == long.class) {
            return Long.valueOf(written);
        }
        return Integer.valueOf(written);
    }

    private static void everyMethodIsTold(String readme) throws IOException {
        String source = Files.readString(Path.of("src/main/java/SettleLayers.java"));
        Matcher method = Pattern.compile("    public (\\w+ \\w+\\([^)]*\\)) \\{").matcher(source);
        int found = 0;
        while (method.find()) {
            found++;
            CHECK.holds("README.md tells " + method.group(1), readme.contains("| `" + method.group(1) + "` |"));
        }
        CHECK.same("methods of the face", found, 16);
    }
}
