import java.lang.reflect.Constructor;
import java.lang.reflect.Field;
import java.lang.reflect.Member;
import java.lang.reflect.Method;
import java.lang.reflect.Modifier;
import java.util.Arrays;
import java.util.Set;
import java.util.TreeSet;

/** The face of the document: all of it, and no other member that can be seen from outside. */
public final class FaceTest {
    private static final String[] FACE = {
        "int type(int) IllegalArgumentException UnsupportedOperationException",
        "int clear()",
        "int name() IllegalStateException UnsupportedOperationException",
        "int expand() IllegalStateException IllegalArgumentException UnsupportedOperationException",
        "boolean prefix(int int) IndexOutOfBoundsException IllegalArgumentException",
        "int space(int) IndexOutOfBoundsException",
        "int best(int) IndexOutOfBoundsException",
        "int propose(int) IndexOutOfBoundsException",
        "int print(int) IndexOutOfBoundsException",
        "char letter(int)",
        "int row(int int int) IndexOutOfBoundsException IllegalStateException UnsupportedOperationException",
        "int told(int int) IndexOutOfBoundsException IllegalArgumentException",
        "int document(int int) IndexOutOfBoundsException",
        "int use(int) IndexOutOfBoundsException",
        "int used(int) IndexOutOfBoundsException",
        "int unknown(int) IndexOutOfBoundsException",
        "int apart(int int) IndexOutOfBoundsException",
        "int near(int int) IndexOutOfBoundsException",
        "boolean alias(int int) IndexOutOfBoundsException",
        "int meaning(int) IndexOutOfBoundsException",
        "int join(int int int) IndexOutOfBoundsException IllegalArgumentException UnsupportedOperationException",
        "int rename(int int) IndexOutOfBoundsException IllegalArgumentException UnsupportedOperationException",
        "int now(int) IndexOutOfBoundsException",
        "int was(int) IndexOutOfBoundsException",
        "int clash(int) IllegalArgumentException",
        "int count(int) IllegalArgumentException",
    };

    public static void main(String[] args) {
        methodsAreTheFace();
        constantsAndConstructor();
        noPrivateMethodBearsAFaceName();
        Check.finish();
    }

    private static void methodsAreTheFace() {
        Set<String> got = new TreeSet<>();
        for (Method method : NameRules.class.getDeclaredMethods()) {
            if (isVisible(method)) {
                StringBuilder text = new StringBuilder(method.getReturnType() + " " + method.getName());
                text.append("(" + namesOf(method.getParameterTypes()) + ") ");
                text.append(namesOf(method.getExceptionTypes()));
                got.add(text.toString().trim());
                Check.same(method + " is public, not static", String.valueOf(method.getModifiers()),
                        String.valueOf(Modifier.PUBLIC));
            }
        }
        Check.same("the methods", got.toString(), new TreeSet<>(Arrays.asList(FACE)).toString());
    }

    private static void constantsAndConstructor() {
        Set<String> fields = new TreeSet<>();
        for (Field field : NameRules.class.getDeclaredFields()) {
            if (isVisible(field)) {
                fields.add(Modifier.toString(field.getModifiers()) + " " + field.getType() + " " + field.getName());
            }
        }
        Check.same("the constants", fields.toString(), "[public static final int NONE]");
        Check.same("NONE", String.valueOf(NameRules.NONE), "-1");
        Constructor<?>[] constructors = NameRules.class.getDeclaredConstructors();
        Check.same("the constructors", Arrays.toString(constructors), "[public NameRules()]");
        Check.same("the class", Modifier.toString(NameRules.class.getModifiers()), "public final");
    }

    private static void noPrivateMethodBearsAFaceName() {
        Set<String> face = new TreeSet<>();
        for (String line : FACE) {
            face.add(line.substring(line.indexOf(' ') + 1, line.indexOf('(')));
        }
        for (Method method : NameRules.class.getDeclaredMethods()) {
            if (!isVisible(method)) {
                Check.same(method.getName(), String.valueOf(face.contains(method.getName())), "false");
            }
        }
        for (Class<?> inside : NameRules.class.getDeclaredClasses()) {
            Check.same(inside.getName() + " is static", String.valueOf(Modifier.isStatic(inside.getModifiers())), "true");
            for (Method method : inside.getDeclaredMethods()) {
                Check.same(inside.getName() + "." + method.getName(), String.valueOf(face.contains(method.getName())), "false");
            }
        }
    }

    private static boolean isVisible(Member member) {
        return !Modifier.isPrivate(member.getModifiers());
    }

    private static String namesOf(Class<?>[] types) {
        return String.join(" ", Arrays.stream(types).map(Class::getSimpleName).toArray(String[]::new));
    }
}
