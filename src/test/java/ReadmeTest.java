import java.io.IOException;
import java.lang.reflect.Method;
import java.lang.reflect.Modifier;
import java.nio.file.Files;
import java.nio.file.Path;
import java.util.TreeSet;
import java.util.regex.Matcher;
import java.util.regex.Pattern;

/** README.md's example, line by line: each call answers what is said behind it, and every call of the face is there. */
public final class ReadmeTest {
    private static final Pattern LETTERS = Pattern.compile("for \\(char letter : \"([^\"]*)\"\\.toCharArray\\(\\)\\) "
            + "\\{ x\\.write\\(letter\\); \\}");
    private static final Pattern CALL = Pattern.compile("x\\.(\\w+)\\(([^)]*)\\); +// (-?\\d+)(:? .*)?");
    private static final Check CHECK = new Check();

    private static final TreeSet<String> TRIED = new TreeSet<>();

    public static void main(String[] args) throws ReflectiveOperationException, IOException {
        AsWithTheLast x = null;
        boolean isCode = false;
        for (String line : Files.readAllLines(Path.of("README.md"))) {
            CHECK.about(line);
            if (line.startsWith("```")) {
                isCode = line.equals("```java");
            } else if (isCode && line.equals("AsWithTheLast x = new AsWithTheLast();")) {
                x = new AsWithTheLast();
            } else if (isCode && !line.isEmpty() && !line.startsWith("//")) {
                CHECK.isTrue("is a line that is tried", x != null && tries(x, line));
            }
        }
        CHECK.about("README.md");
        CHECK.isTrue("its example has every call, not only " + TRIED, TRIED.equals(face()));
        CHECK.end();
    }

    private static boolean tries(AsWithTheLast x, String line) throws ReflectiveOperationException {
        Matcher letters = LETTERS.matcher(line);
        if (letters.matches()) {
            Texts.write(x, letters.group(1));
            TRIED.add("write");
            return true;
        }
        Matcher call = CALL.matcher(line);
        if (!call.matches()) {
            return false;
        }
        Method method = method(call.group(1));
        TRIED.add(method.getName());
        int answer = (int) method.invoke(x, given(method, call.group(2)));
        CHECK.due(method.getName(), answer, Integer.parseInt(call.group(3)));
        return true;
    }

    private static Object[] given(Method method, String numbers) {
        Class<?>[] types = method.getParameterTypes();
        String[] told = numbers.isEmpty() ? new String[0] : numbers.split(", ");
        CHECK.due("numbers given", told.length, types.length);
        Object[] given = new Object[types.length];
        for (int i = 0; i < given.length; i++) {
            boolean isBoolean = types[i] == boolean.class;
            given[i] = isBoolean ? (Object) Boolean.valueOf(told[i]) : (Object) Integer.valueOf(told[i]);
        }
        return given;
    }

    private static Method method(String name) throws NoSuchMethodException {
        for (Method method : AsWithTheLast.class.getMethods()) {
            if (method.getDeclaringClass() == AsWithTheLast.class && method.getName().equals(name)) {
                return method;
            }
        }
        throw new NoSuchMethodException(name);
    }

    private static TreeSet<String> face() {
        TreeSet<String> names = new TreeSet<>();
        for (Method method : AsWithTheLast.class.getDeclaredMethods()) {
            if (Modifier.isPublic(method.getModifiers())) {
                names.add(method.getName());
            }
        }
        return names;
    }
}
