import java.lang.reflect.Field;
import java.lang.reflect.Method;
import java.lang.reflect.Modifier;
import java.nio.file.Files;
import java.nio.file.Path;
import java.util.ArrayList;
import java.util.List;
import java.util.regex.Matcher;
import java.util.regex.Pattern;

/** README.md tells of the class as it is: its first use, its face, its numbers and its modes. */
public final class ReadmeTest {
    private static final Pattern CALL = Pattern.compile("x\\.(\\w+)\\(([^)]*)\\); +// (.*)");
    private static final Pattern FACE = Pattern.compile("\\| `(boolean|int|void) (\\w+)\\(([^)]*)\\)` \\|.*");
    private static final Pattern MODE =
            Pattern.compile("\\| (\\d+) \\| ([A-Z]+) \\| 0 \\.\\. (\\d+) \\| (\\d+) \\| .* \\|");

    private ReadmeTest() {
    }

    public static void main(String[] args) throws Exception {
        Check check = new Check("ReadmeTest");
        List<String> lines = Files.readAllLines(Path.of("README.md"));
        firstUse(check, lines);
        face(check, lines);
        constants(check, String.join(" ", lines));
        modes(check, lines);
        tests(check, String.join(" ", lines));
        check.finish();
    }

    private static void firstUse(Check check, List<String> lines) throws Exception {
        check.sentence("Behind each call stands what it answers");
        PortWarden x = new PortWarden();
        for (String line : lines) {
            Matcher call = CALL.matcher(line);
            if (call.matches()) {
                Method method = methodNamed(call.group(1));
                Object got = method.invoke(x, given(call.group(2), method));
                if (got != null) {
                    check.is(line, String.valueOf(got), told(call.group(3).split(":")[0]));
                }
            }
        }
    }

    private static void face(Check check, List<String> lines) {
        check.sentence("The face");
        List<String> told = new ArrayList<>();
        for (String line : lines) {
            Matcher face = FACE.matcher(line);
            if (face.matches()) {
                String types = face.group(3).replaceAll("(\\w+) \\w+", "$1");
                told.add(face.group(1) + " " + face.group(2) + "(" + types + ")");
            }
        }
        int methods = 0;
        for (Method method : PortWarden.class.getDeclaredMethods()) {
            if (Modifier.isPublic(method.getModifiers())) {
                methods++;
                check.is("the row of " + method.getName(), told.contains(shown(method)), true);
            }
        }
        check.is("rows of calls", told.size(), methods);
    }

    private static void constants(Check check, String text) throws Exception {
        check.sentence("The constants");
        for (Field field : PortWarden.class.getFields()) {
            String told = "`" + field.getName() + " = " + field.getInt(null) + "`";
            check.is(told, text.contains(told), true);
        }
    }

    private static void modes(Check check, List<String> lines) throws Exception {
        check.sentence("The modes");
        int next = 0;
        for (String line : lines) {
            Matcher mode = MODE.matcher(line);
            if (mode.matches()) {
                PortWarden x = new PortWarden();
                int which = Integer.parseInt(mode.group(1));
                int most = Integer.parseInt(mode.group(3));
                check.is("the next row's mode", which, next++);
                check.is("the name of mode " + which, Play.class.getDeclaredField(mode.group(2)).getInt(null), which);
                check.is("mode " + which + " at first", x.modeOf(0, which), Integer.parseInt(mode.group(4)));
                check.is("mode " + which + " at most", x.mode(0, which, most, 0), true);
                check.is("mode " + which + " above that", x.mode(0, which, most + 1, 0), false);
            }
        }
        check.is("rows of modes", next, 25);
    }

    private static void tests(Check check, String text) {
        check.sentence("how its tests are run");
        for (String told : new String[] {"`.ci/run`", "`../shared/tests`", "src/test/java/*.java", "java -cp"}) {
            check.is(told, text.contains(told), true);
        }
    }

    private static Method methodNamed(String name) {
        for (Method method : PortWarden.class.getMethods()) {
            if (method.getName().equals(name) && method.getDeclaringClass() == PortWarden.class) {
                return method;
            }
        }
        throw new IllegalStateException("README.md calls " + name + ", which is no method");
    }

    private static Object[] given(String text, Method method) throws Exception {
        Object[] given = new Object[method.getParameterCount()];
        String[] words = text.isEmpty() ? new String[0] : text.split(", ");
        for (int i = 0; i < given.length; i++) {
            boolean isTruth = method.getParameterTypes()[i] == boolean.class;
            given[i] = isTruth ? (Object) Boolean.valueOf(words[i]) : (Object) Integer.valueOf(told(words[i]));
        }
        return given;
    }

    /** The number or truth that a word stands for: 'c', a constant of the class, or itself. */
    private static String told(String word) throws Exception {
        if (word.startsWith("'")) {
            return String.valueOf((int) word.charAt(1));
        }
        for (Field field : PortWarden.class.getFields()) {
            if (field.getName().equals(word)) {
                return String.valueOf(field.getInt(null));
            }
        }
        return word;
    }

    private static String shown(Method method) {
        StringBuilder types = new StringBuilder();
        for (Class<?> type : method.getParameterTypes()) {
            types.append(types.length() == 0 ? "" : ", ").append(type.getName());
        }
        return method.getReturnType().getName() + " " + method.getName() + "(" + types + ")";
    }
}
