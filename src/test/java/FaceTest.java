import java.lang.reflect.Constructor;
import java.lang.reflect.Field;
import java.lang.reflect.Member;
import java.lang.reflect.Method;
import java.lang.reflect.Modifier;
import java.util.Arrays;
import java.util.Random;
import java.util.TreeSet;

/** The face as the document has it, nothing else to be seen; and no call ever throws, whatever it is given. */
public final class FaceTest {
    private static final String[] FACE = {"write(int)", "wipe()", "fault()", "lay()", "kind(int,int)", "errand(int)",
        "word(int)", "unlike(int,int)", "does(int,int)", "hand(int)", "teach(int,int)", "undo()", "tell(int)",
        "noRow()", "run(int,int,int)", "round()", "order(int)", "best(int)", "seen(int,int)", "forget()", "fits()",
        "firsts(int)",
        "ask(int)", "rule(int)", "wrong(int,int,boolean)", "byTurns(int)", "mean(int,int)", "year(int,int,int)",
        "keep()", "back()", "count(int)"};
    private static final int[] EXTREMES = {0, 1, 2, 3, 4, 5, 6, 7, 9, 10, 31, 32, 59, 60, 61, 101, 107, 108, 9999,
        10000, -1, -2, -4, Integer.MAX_VALUE, Integer.MIN_VALUE, Integer.MAX_VALUE - 1, 65521, 1 << 30};
    private static final Check CHECK = new Check();

    public static void main(String[] args) throws Exception {
        constants();
        methods();
        innerClasses();
        neverThrows();
        CHECK.end();
    }

    private static void constants() {
        CHECK.about("constants");
        CHECK.due("BAD", AsWithTheLast.BAD, -1);
        CHECK.due("NO", AsWithTheLast.NO, -2);
        CHECK.due("FULL", AsWithTheLast.FULL, -3);
        CHECK.due("NONE", AsWithTheLast.NONE, -4);
    }

    private static boolean isHidden(Member member) {
        return Modifier.isPrivate(member.getModifiers()) || member.isSynthetic();
    }

    private static void methods() {
        CHECK.about("face");
        CHECK.isTrue("final", Modifier.isFinal(AsWithTheLast.class.getModifiers()));
        CHECK.isTrue("public", Modifier.isPublic(AsWithTheLast.class.getModifiers()));
        TreeSet<String> due = new TreeSet<>(Arrays.asList(FACE));
        TreeSet<String> names = new TreeSet<>();
        for (String call : FACE) {
            names.add(call.substring(0, call.indexOf('(')));
        }
        TreeSet<String> found = new TreeSet<>();
        for (Method method : AsWithTheLast.class.getDeclaredMethods()) {
            if (isHidden(method)) {
                CHECK.isTrue("no private " + method.getName(), !names.contains(method.getName()));
                continue;
            }
            String all = method.toString();
            found.add(all.substring(all.indexOf(method.getName() + "(")));
            CHECK.isTrue(all + " is public int", all.startsWith("public int "));
        }
        CHECK.isTrue("methods " + found, found.equals(due));
        Constructor<?>[] made = AsWithTheLast.class.getDeclaredConstructors();
        CHECK.isTrue("constructor", made.length == 1 && Modifier.isPublic(made[0].getModifiers())
                && made[0].getParameterCount() == 0);
        TreeSet<String> fields = new TreeSet<>();
        for (Field field : AsWithTheLast.class.getDeclaredFields()) {
            if (!isHidden(field)) {
                fields.add(field.getName());
            }
        }
        CHECK.isTrue("fields " + fields, fields.equals(new TreeSet<>(Arrays.asList("BAD", "NO", "FULL", "NONE"))));
    }

    private static void innerClasses() {
        CHECK.about("classes inside");
        Class<?>[] all = AsWithTheLast.class.getDeclaredClasses();
        CHECK.isTrue("some twelve classes", all.length <= 12);
        for (Class<?> inner : all) {
            CHECK.isTrue(inner + " static", Modifier.isStatic(inner.getModifiers()));
            CHECK.isTrue(inner + " not public", !Modifier.isPublic(inner.getModifiers()));
            for (Field field : inner.getDeclaredFields()) {
                CHECK.isTrue(field + " final", !Modifier.isStatic(field.getModifiers())
                        || Modifier.isFinal(field.getModifiers()));
            }
        }
    }

    private static void neverThrows() throws Exception {
        CHECK.about("no throw");
        Random draw = new Random(7);
        Method[] calls = Arrays.stream(AsWithTheLast.class.getDeclaredMethods())
                .filter(method -> !isHidden(method)).toArray(Method[]::new);
        Arrays.sort(calls, (a, b) -> a.toString().compareTo(b.toString()));
        String letters = "k0,0,62,20,9;l2;f3;e0;e0;";
        for (int run = 0; run < 100; run++) {
            AsWithTheLast x = run % 2 == 0 ? new AsWithTheLast() : Texts.laid(letters);
            for (int i = 0; i < 240; i++) {
                Method call = calls[draw.nextInt(calls.length)];
                if (call.getName().equals("wipe") && draw.nextInt(30) > 0) {
                    continue;
                }
                Object[] given = new Object[call.getParameterCount()];
                for (int p = 0; p < given.length; p++) {
                    given[p] = call.getParameterTypes()[p] == boolean.class ? (Object) draw.nextBoolean()
                            : (Object) EXTREMES[draw.nextInt(draw.nextBoolean() ? 4 : EXTREMES.length)];
                }
                if (call.getName().equals("write") && draw.nextInt(4) > 0) {
                    given[0] = (int) letters.charAt(x.count(11) % letters.length());
                }
                call.invoke(x, given);
            }
            CHECK.isTrue("still answers", x.count(0) >= 1);
        }
    }
}
