import java.lang.reflect.Constructor;
import java.lang.reflect.Field;
import java.lang.reflect.Method;
import java.lang.reflect.Modifier;
import java.util.Set;
import java.util.TreeSet;

/** The public face: nothing of it is missing, and nothing else can be seen from outside. */
public final class FaceTest {
    private static final String[] METHODS = {
        "boolean receive int int int", "int transmit int", "int held int", "boolean carrier int boolean",
        "boolean clear int boolean", "boolean open int int", "boolean close int int", "boolean join int int",
        "boolean foreground int int", "int write int int int", "int read int int", "boolean mode int int int int",
        "int modeOf int int", "int poll int int", "int signals int", "int count int int", "int column int",
        "boolean flush int int", "int ready int", "void tick",
    };

    public static void main(String[] args) {
        Check check = new Check("FaceTest");
        check.is("the class is public and final",
                Modifier.isPublic(PortWarden.class.getModifiers()) && Modifier.isFinal(PortWarden.class.getModifiers()),
                true);
        check.is("methods", visibleMethods().toString(), new TreeSet<>(Set.of(METHODS)).toString());
        check.is("fields", visibleFields().toString(), "[END, ERROR, NONE, STOPPED, WAIT]");
        check.is("constructors", visibleConstructors(), "public PortWarden();");
        check.is("NONE", PortWarden.NONE, -1);
        check.is("WAIT", PortWarden.WAIT, -2);
        check.is("END", PortWarden.END, -3);
        check.is("ERROR", PortWarden.ERROR, -4);
        check.is("STOPPED", PortWarden.STOPPED, -5);
        check.finish();
    }

    private static Set<String> visibleMethods() {
        Set<String> found = new TreeSet<>();
        for (Method method : PortWarden.class.getDeclaredMethods()) {
            if (Modifier.isPrivate(method.getModifiers()) || method.isSynthetic()) {
                continue;
            }
            StringBuilder text = new StringBuilder();
            text.append(Modifier.isPublic(method.getModifiers()) ? "" : "hidden ");
            text.append(method.getReturnType().getName()).append(' ').append(method.getName());
            for (Class<?> type : method.getParameterTypes()) {
                text.append(' ').append(type.getName());
            }
            found.add(text.toString());
        }
        return found;
    }

    private static Set<String> visibleFields() {
        Set<String> found = new TreeSet<>();
        for (Field field : PortWarden.class.getDeclaredFields()) {
            if (!Modifier.isPrivate(field.getModifiers())) {
                found.add(field.getName());
            }
        }
        return found;
    }

    private static String visibleConstructors() {
        StringBuilder found = new StringBuilder();
        for (Constructor<?> constructor : PortWarden.class.getDeclaredConstructors()) {
            if (!Modifier.isPrivate(constructor.getModifiers())) {
                found.append(constructor.toString()).append(';');
            }
        }
        return found.toString();
    }
}
