import java.io.IOException;
import java.nio.file.Files;
import java.nio.file.Path;
import java.util.ArrayList;
import java.util.LinkedHashMap;
import java.util.List;
import java.util.Map;
import java.util.TreeSet;
import java.util.regex.Matcher;
import java.util.regex.Pattern;

/** What can be seen of LANGUAGE.md's rules in the class's source; it is read by its indentation, four spaces a step. */
public final class LanguageTest {
    private static final Path SOURCE = Path.of("src/main/java/AsWithTheLast.java");
    private static final Pattern CLASS = Pattern.compile("( *)[\\w ]*\\bclass (\\w+) \\{");
    private static final Pattern METHOD = Pattern.compile(
            "( +)((?:\\w+ )*)[\\w\\[\\]]+ ([a-z]\\w*)\\(([^()]*)\\) \\{(.*)");
    private static final Pattern STATIC_FIELD = Pattern.compile(" +(?:\\w+ )*static (?!final )(?!class )[^(]*[=;].*");
    private static final Pattern PLAIN_CALL = Pattern.compile("(?<![.\\w])([a-z]\\w*)\\(");
    private static final Pattern LIBRARY = Pattern.compile("\\b([A-Z][a-z]\\w*)\\.(\\w+)\\(");
    private static final List<String> ALLOWED = List.of("Math.max", "Math.min", "Integer.bitCount", "System.arraycopy");
    private static final List<String> CALLING_THEMSELVES = List.of("lossAtMothersTurn", "lossAtOthersTurn",
            "lossByChances", "tryFrom");
    private static final String[] WORDS_OUT = {"import", "package", "throw", "throws", "try", "catch", "finally",
        "synchronized", "assert", "instanceof", "native", "volatile", "transient", "protected", "var", "super"};
    private static final int LINES_OF_A_METHOD = 60, PARAMETERS = 7, CLASSES = 12, FIELDS = 20, CALLS_DEEP = 8;
    private static final Check CHECK = new Check();

    private static final class Method {
        private String inside;
        private String name;
        private String before;
        private String parameters;
        private final StringBuilder body = new StringBuilder();
        private int lines;
    }

    private final Map<String, Method> methods = new LinkedHashMap<>();
    private final Map<String, Integer> fields = new LinkedHashMap<>();

    public static void main(String[] args) throws IOException {
        LanguageTest test = new LanguageTest();
        String text = Files.readString(SOURCE);
        test.read(text.split("\n"));
        test.plainSigns(text);
        test.wordsAndLibrary(withoutComments(text));
        test.rule1();
        test.rule8();
        test.rule11();
        CHECK.end();
    }

    private static String withoutComments(String text) {
        return text.replaceAll("(?s)/\\*.*?\\*/", "").replaceAll("(?m)//.*$", "").replaceAll("\"[^\"]*\"", "\"\"");
    }

    private void read(String[] lines) {
        String inside = "";
        Method open = null;
        String end = "";
        for (String line : lines) {
            Matcher isClass = CLASS.matcher(line);
            Matcher isMethod = METHOD.matcher(line);
            if (open != null) {
                open.lines++;
                open.body.append(line).append('\n');
                open = line.equals(end) ? null : open;
            } else if (isClass.lookingAt()) {
                inside = isClass.group(2);
                fields.put(inside, 0);
            } else if (isMethod.matches()) {
                open = method(inside, isMethod);
                end = isMethod.group(1) + "}";
                CHECK.due("a method's body begins below: " + line, isMethod.group(5).length(), 0);
            } else if (line.equals("    }")) {
                inside = "AsWithTheLast";
            } else if (line.matches(" +private (?!static).*;")) {
                fields.merge(inside, 1, Integer::sum);
            }
            CHECK.isTrue("rule 5, a static field that is not final: " + line, !STATIC_FIELD.matcher(line).matches());
        }
    }

    private Method method(String inside, Matcher found) {
        Method method = new Method();
        method.inside = inside;
        method.before = found.group(2);
        method.name = found.group(3);
        method.parameters = found.group(4);
        String key = key(inside, method.name);
        CHECK.isTrue("one method called " + key, methods.put(key, method) == null);
        return method;
    }

    private static String key(String inside, String name) {
        return inside + "." + name;
    }

    private void plainSigns(String text) {
        CHECK.about("rule 3");
        for (char sign : text.toCharArray()) {
            CHECK.isTrue("sign " + (int) sign, sign == '\n' || sign >= ' ' && sign < 127);
        }
    }

    private void wordsAndLibrary(String text) {
        CHECK.about("rules 2, 4, 6");
        for (String word : WORDS_OUT) {
            CHECK.isTrue(word, !Pattern.compile("\\b" + word + "\\b").matcher(text).find());
        }
        CHECK.isTrue("no lambda, no method reference", !text.contains("->") && !text.contains("::"));
        Matcher call = LIBRARY.matcher(text);
        while (call.find()) {
            CHECK.isTrue(call.group(), ALLOWED.contains(call.group(1) + "." + call.group(2)));
        }
    }

    private void rule1() {
        CHECK.about("rule 1");
        TreeSet<String> face = new TreeSet<>();
        for (Method method : methods.values()) {
            if (method.before.contains("public")) {
                CHECK.isTrue(method.name + " stands in the public class", method.inside.equals("AsWithTheLast"));
                face.add(method.name);
            }
        }
        CHECK.due("methods of the face", face.size(), 31);
        for (Method method : methods.values()) {
            boolean isHidden = !method.before.contains("public");
            CHECK.isTrue(key(method.inside, method.name), !isHidden || !face.contains(method.name));
        }
    }

    /** The methods that are called without an object before them: those of the same class, or of the outer one. */
    private List<Method> plainCalls(Method method) {
        List<Method> called = new ArrayList<>();
        Matcher call = PLAIN_CALL.matcher(withoutComments(method.body.toString()));
        while (call.find()) {
            Method own = methods.get(key(method.inside, call.group(1)));
            Method other = own != null ? own : methods.get(key("AsWithTheLast", call.group(1)));
            if (other != null) {
                called.add(other);
            }
        }
        return called;
    }

    private boolean leadsTo(Method from, Method to, int steps) {
        for (Method called : plainCalls(from)) {
            if (called == to || steps > 0 && leadsTo(called, to, steps - 1)) {
                return true;
            }
        }
        return false;
    }

    private void rule8() {
        CHECK.about("rule 8");
        TreeSet<String> found = new TreeSet<>();
        for (Method method : methods.values()) {
            if (leadsTo(method, method, CALLS_DEEP)) {
                found.add(method.name);
                CHECK.isTrue(method.name + " calls itself, so it is private and static",
                        method.before.equals("private static "));
            }
        }
        CHECK.isTrue("those that call themselves are " + found, found.equals(new TreeSet<>(CALLING_THEMSELVES)));
    }

    private void rule11() {
        CHECK.about("rule 11");
        for (Method method : methods.values()) {
            CHECK.isTrue(method.name + " is short", method.lines <= LINES_OF_A_METHOD);
            CHECK.isTrue(method.name + " takes few parameters", method.parameters.split(",").length <= PARAMETERS);
        }
        CHECK.isTrue("some twelve classes", fields.size() <= CLASSES);
        for (String inside : fields.keySet()) {
            CHECK.isTrue(inside + " has few fields", fields.get(inside) <= FIELDS);
        }
    }
}
