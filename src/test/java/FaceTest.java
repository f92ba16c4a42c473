import java.lang.reflect.Constructor;
import java.lang.reflect.Field;
import java.lang.reflect.Method;
import java.lang.reflect.Modifier;
import java.util.Arrays;
import java.util.List;
import java.util.Set;
import java.util.TreeSet;

/** The class has the document's face and no other, as rules 1 and 5 of LANGUAGE.md ask. */
public final class FaceTest {
    private static final List<String> FACE = List.of(
            "boolean setMember(int, int, boolean) IndexOutOfBoundsException",
            "boolean nest(int, int) IndexOutOfBoundsException IllegalStateException",
            "int members(int) IndexOutOfBoundsException",
            "int addFolder(int, int) IndexOutOfBoundsException IllegalStateException",
            "int setOwner(int, int) IndexOutOfBoundsException",
            "boolean setInherits(int, boolean) IndexOutOfBoundsException",
            "int allow(int, int, boolean, int, int)"
                    + " IndexOutOfBoundsException IllegalArgumentException IllegalStateException",
            "int drop(int, int) IndexOutOfBoundsException",
            "int folders()",
            "int rights(int, int) IndexOutOfBoundsException",
            "int rightsBackwards(int, int) IndexOutOfBoundsException",
            "int groupOf(int) IndexOutOfBoundsException",
            "int bits(int) IndexOutOfBoundsException",
            "int named(int) IndexOutOfBoundsException",
            "int mapped(int, int) IndexOutOfBoundsException",
            "int loss(int) IndexOutOfBoundsException",
            "int lossWith(int, int) IndexOutOfBoundsException",
            "int pass()",
            "boolean isFresh(int) IndexOutOfBoundsException",
            "boolean turn(int) IndexOutOfBoundsException IllegalStateException",
            "int rightsNow(int, int) IndexOutOfBoundsException",
            "int gainers(int) IndexOutOfBoundsException");

    public static void main(String[] args) {
        Check.is("public and final", Modifier.PUBLIC | Modifier.FINAL, ShareMover.class.getModifiers());
        publicMethodsAreTheFace();
        constantsAreTheFace();
        Constructor<?>[] made = ShareMover.class.getDeclaredConstructors();
        Check.is("constructors", 1, made.length);
        Check.is("without parameters", 0, made[0].getParameterCount());
        Check.is("that is public", true, Modifier.isPublic(made[0].getModifiers()));
        for (Class<?> inner : ShareMover.class.getDeclaredClasses()) {
            int modifiers = inner.getModifiers();
            Check.is(inner + " is static", true, Modifier.isStatic(modifiers));
            Check.is(inner + " is not in the face", false,
                    Modifier.isPublic(modifiers) || Modifier.isProtected(modifiers));
        }
        Check.end();
    }

    private static void publicMethodsAreTheFace() {
        Set<String> got = new TreeSet<>();
        Set<String> publicNames = new TreeSet<>();
        Set<String> otherNames = new TreeSet<>();
        for (Method method : ShareMover.class.getDeclaredMethods()) {
            if (Modifier.isPublic(method.getModifiers())) {
                got.add(told(method));
                publicNames.add(method.getName());
            } else {
                Check.is(method + " is private", true, Modifier.isPrivate(method.getModifiers()));
                otherNames.add(method.getName());
            }
        }
        Check.note("public methods", new TreeSet<>(FACE).toString(), got.toString());
        otherNames.retainAll(publicNames);
        Check.note("private methods with public names", "[]", otherNames.toString());
    }

    private static String told(Method method) {
        StringBuilder text = new StringBuilder();
        text.append(method.getReturnType()).append(' ').append(method.getName());
        text.append(Arrays.toString(method.getParameterTypes()).replace('[', '(').replace(']', ')'));
        for (Class<?> thrown : method.getExceptionTypes()) {
            text.append(' ').append(thrown.getSimpleName());
        }
        return text.toString();
    }

    private static void constantsAreTheFace() {
        Set<String> got = new TreeSet<>();
        for (Field field : ShareMover.class.getDeclaredFields()) {
            int modifiers = field.getModifiers();
            if (Modifier.isStatic(modifiers)) {
                Check.is(field + " is final", true, Modifier.isFinal(modifiers));
            }
            if (Modifier.isPublic(modifiers)) {
                Check.is(field + " is static", true, Modifier.isStatic(modifiers));
                got.add(field.getType() + " " + field.getName());
            } else {
                Check.is(field + " is private", true, Modifier.isPrivate(modifiers));
            }
        }
        Check.note("public constants", "[int BELOW, int BOTH, int HERE, int NONE]", got.toString());
    }
}
