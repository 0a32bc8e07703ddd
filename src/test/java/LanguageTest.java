import java.io.IOException;
import java.lang.reflect.Field;
import java.lang.reflect.Method;
import java.lang.reflect.Modifier;
import java.nio.file.Files;
import java.nio.file.Path;
import java.util.HashSet;
import java.util.Set;
import java.util.regex.Matcher;
import java.util.regex.Pattern;

/** Rules of LANGUAGE.md that can be seen in the program's text. */
public final class LanguageTest {
    private static final String PROGRAM = "src/main/java/PortWarden.java";
    private static final String[] RULED_OUT = {
        "\\bpackage\\b", "\\bimport\\b", "\\bthrow\\b", "\\bthrows\\b", "\\btry\\b", "\\bcatch\\b",
        "\\bsynchronized\\b", "\\bassert\\b", "\\bprotected\\b", "->", "::", "\\bstatic\\s*\\{", "\\bSystem\\.(?!arraycopy)",
        "\\bstatic (?!final\\b)(?!class\\b)[\\w\\[\\]]+ \\w+\\s*[;=]", "\\.equals\\(", "\\.hashCode\\(", "\\.toString\\(",
        "\\w+Exact\\(",
    };

    public static void main(String[] args) throws IOException {
        Check check = new Check("LanguageTest");
        String code = Files.readString(Path.of(PROGRAM))
                .replaceAll("(?s)/\\*.*?\\*/", "").replaceAll("//[^\n]*", "");
        for (String rule : RULED_OUT) {
            Matcher found = Pattern.compile(rule).matcher(code);
            check.is("'" + rule + "' in the program", found.find() ? found.group() : "", "");
        }
        check.is("the longest method is short", longestMethod(code) <= 60, true);
        everyObjectIsMadeByAConstructor(check, code);
        shapeOfClasses(check);
        check.finish();
    }

    private static void shapeOfClasses(Check check) {
        Set<String> face = new HashSet<>();
        for (Method method : PortWarden.class.getDeclaredMethods()) {
            if (Modifier.isPublic(method.getModifiers())) {
                face.add(method.getName());
            }
        }
        Class<?>[] inside = PortWarden.class.getDeclaredClasses();
        check.is("at most twelve classes", inside.length + 1 <= 12, true);
        shapeOf(check, PortWarden.class, face);
        for (Class<?> one : inside) {
            check.is(one.getName() + " is static", Modifier.isStatic(one.getModifiers()), true);
            check.is(one.getName() + " is not public", Modifier.isPublic(one.getModifiers()), false);
            shapeOf(check, one, face);
        }
    }

    private static void shapeOf(Check check, Class<?> one, Set<String> face) {
        int fields = 0;
        for (Field field : one.getDeclaredFields()) {
            boolean isStatic = Modifier.isStatic(field.getModifiers());
            check.is(field + " is final if it is static", !isStatic || Modifier.isFinal(field.getModifiers()), true);
            fields += isStatic ? 0 : 1;
        }
        check.is(one.getName() + " has at most twenty fields", fields <= 20, true);
        for (Method method : one.getDeclaredMethods()) {
            check.is(method + " has at most seven parameters", method.getParameterCount() <= 7, true);
            if (!Modifier.isPublic(method.getModifiers())) {
                check.is(method + " bears a name of the face", face.contains(method.getName()), false);
            }
        }
    }

    private static int longestMethod(String code) {
        int longest = 0;
        int begun = -1;
        String indent = "";
        String[] lines = code.split("\n");
        for (int i = 0; i < lines.length; i++) {
            Matcher head = Pattern.compile("^(    |        )[A-Za-z][^=;]*\\)\\s*\\{$").matcher(lines[i]);
            if (head.find()) {
                begun = i;
                indent = head.group(1);
            } else if (begun >= 0 && lines[i].equals(indent + "}")) {
                longest = Math.max(longest, i - begun + 1);
                begun = -1;
            }
        }
        return longest;
    }

    // A run has one room for all its objects, so calls must make none.
    private static void everyObjectIsMadeByAConstructor(Check check, String code) {
        int calls = code.indexOf("public boolean receive(");
        int classes = code.indexOf("private static final class");
        check.is("a call makes an object", code.substring(calls, classes).contains("new "), false);
        Matcher made = Pattern.compile("(?m)^.*\\bnew .*$").matcher(code.substring(classes));
        while (made.find()) {
            String line = made.group().trim();
            check.is(line + " is a field's", line.startsWith("private final ") || line.startsWith("cells = "), true);
        }
    }
}
