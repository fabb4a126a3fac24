import java.lang.reflect.Constructor;
import java.lang.reflect.Field;
import java.lang.reflect.Method;
import java.lang.reflect.Modifier;
import java.util.Set;
import java.util.TreeSet;

/** The class shows what the document's face shows, and nothing else. */
public final class FaceTest {
    private static final Set<String> FACE = Set.of(
        "boolean corrupt(int)", "boolean tosses(int,int)", "boolean start(int,int)", "int pass(int,int,int)",
        "boolean forge(int,int,int,int,int)", "int sent(int)", "int message(int,int)", "int waiting(int,int)",
        "int votes(int,int,int,int,boolean)", "int accepted(int,int,int)", "int rowAt(int,int,int)",
        "int slot(int)", "int value(int)", "int decided(int)");

    public static void main(String[] args) throws ReflectiveOperationException {
        Checks checks = new Checks();
        Class<?> face = EchoedRounds.class;
        checks.yes("the class is public", Modifier.isPublic(face.getModifiers()));
        checks.yes("the class is final", Modifier.isFinal(face.getModifiers()));
        checks.same("superclass", face.getSuperclass() == Object.class ? 1 : 0, 1);
        Set<String> shown = new TreeSet<>();
        for (Method method : face.getDeclaredMethods()) {
            if (Modifier.isPrivate(method.getModifiers())) {
                continue;
            }
            checks.yes(method + " is public", Modifier.isPublic(method.getModifiers()));
            checks.no(method + " is static", Modifier.isStatic(method.getModifiers()));
            shown.add(textOf(method));
        }
        checks.yes("methods " + shown, shown.equals(FACE));
        for (Field field : face.getDeclaredFields()) {
            boolean isNone = field.getName().equals("NONE");
            checks.yes(field + " is seen or not", isNone != Modifier.isPrivate(field.getModifiers()));
            checks.yes(field + " is final", Modifier.isFinal(field.getModifiers()));
        }
        checks.same("NONE", EchoedRounds.NONE, -1);
        Constructor<?>[] constructors = face.getDeclaredConstructors();
        checks.same("constructors", constructors.length, 1);
        checks.yes("constructor", Modifier.isPublic(face.getDeclaredConstructor(int.class).getModifiers()));
        for (Class<?> inner : face.getDeclaredClasses()) {
            checks.yes(inner + " is static", Modifier.isStatic(inner.getModifiers()));
            checks.no(inner + " is public", Modifier.isPublic(inner.getModifiers()));
            keepsToLimits(checks, inner);
        }
        keepsToLimits(checks, face);
        checks.yes("at most twelve classes", face.getDeclaredClasses().length < 12);
        checks.end();
    }

    /** What LANGUAGE.md asks of every class and can be seen here. */
    private static void keepsToLimits(Checks checks, Class<?> one) {
        int fields = 0;
        for (Field field : one.getDeclaredFields()) {
            boolean isStatic = Modifier.isStatic(field.getModifiers());
            checks.yes(field + ": static state is final", !isStatic || Modifier.isFinal(field.getModifiers()));
            fields += isStatic ? 0 : 1;
        }
        checks.yes(one + ": at most twenty fields", fields <= 20);
        for (Method method : one.getDeclaredMethods()) {
            checks.yes(method + ": at most seven parameters", method.getParameterCount() <= 7);
            boolean hidden = Modifier.isPrivate(method.getModifiers());
            checks.no(method + ": private with a public name", hidden && isNameOfFace(method.getName()));
        }
    }

    private static boolean isNameOfFace(String name) {
        for (String method : FACE) {
            if (method.contains(" " + name + "(")) {
                return true;
            }
        }
        return false;
    }

    private static String textOf(Method method) {
        StringBuilder text = new StringBuilder();
        text.append(method.getReturnType()).append(' ').append(method.getName()).append('(');
        for (int k = 0; k < method.getParameterCount(); k++) {
            text.append(k == 0 ? "" : ",").append(method.getParameterTypes()[k]);
        }
        return text.append(')').toString();
    }
}
