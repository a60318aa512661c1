import java.lang.reflect.Constructor;
import java.lang.reflect.Executable;
import java.lang.reflect.Field;
import java.lang.reflect.Member;
import java.lang.reflect.Method;
import java.lang.reflect.Modifier;
import java.util.Set;
import java.util.TreeSet;

/** The document's face, and nothing else that is seen from outside. */
public final class FaceTest {
    private static final Set<String> FACE = Set.of(
            "public SuccessKinds() throws ()",
            "public int make(int, int, int, int, int) throws (IllegalArgumentException, IllegalStateException)",
            "public int define(int, int) throws (IllegalArgumentException)",
            "public int may(int, int) throws (IllegalArgumentException)",
            "public int gives(int) throws (IllegalArgumentException)",
            "public int hopeless(int) throws (IllegalArgumentException)",
            "public boolean isHopeless(int, int) throws (IllegalArgumentException)",
            "public int run(int, int, int)"
                    + " throws (IllegalArgumentException, UnsupportedOperationException, IllegalStateException)",
            "public int part(int) throws (IndexOutOfBoundsException)",
            "public int calls() throws ()");

    public static void main(String[] args) {
        Expect expect = new Expect();
        Set<String> seen = new TreeSet<>();
        for (Constructor<?> constructor : SuccessKinds.class.getDeclaredConstructors()) {
            if (isSeen(constructor)) {
                seen.add(told(constructor, "SuccessKinds"));
            }
        }
        for (Method method : SuccessKinds.class.getDeclaredMethods()) {
            String face = told(method, method.getReturnType() + " " + method.getName());
            if (isSeen(method)) {
                seen.add(face);
            } else {
                expect.is("a private method named as a public one: " + face, false, isFaceName(method.getName()));
            }
        }
        for (Field field : SuccessKinds.class.getDeclaredFields()) {
            if (isSeen(field)) {
                seen.add("field " + field.getName());
            }
        }
        expect.compare("the face", new TreeSet<>(FACE).toString(), seen.toString());
        expect.compare("the class", "public final", Modifier.toString(SuccessKinds.class.getModifiers()));
        expect.compare("its package", "", SuccessKinds.class.getPackageName());
        expect.compare("what it extends", "Object", SuccessKinds.class.getSuperclass().getSimpleName());
        expect.compare("what it implements", "()", types(SuccessKinds.class.getInterfaces()));
        for (Class<?> inside : SuccessKinds.class.getDeclaredClasses()) {
            checkInside(expect, inside);
        }
        expect.finish();
    }

    private static void checkInside(Expect expect, Class<?> inside) {
        int modifiers = inside.getModifiers();
        expect.is(inside + " is static", true, Modifier.isStatic(modifiers));
        expect.is(inside + " is seen", false, Modifier.isPublic(modifiers) || Modifier.isProtected(modifiers));
        for (Method method : inside.getDeclaredMethods()) {
            expect.is(inside + " has " + method.getName(), false, isFaceName(method.getName()));
        }
        for (Field field : inside.getDeclaredFields()) {
            boolean changing = Modifier.isStatic(field.getModifiers()) && !Modifier.isFinal(field.getModifiers());
            expect.is(inside + " has static state: " + field.getName(), false, changing);
        }
    }

    private static String told(Executable member, String name) {
        return Modifier.toString(member.getModifiers()) + " " + name + types(member.getParameterTypes())
                + " throws " + types(member.getExceptionTypes());
    }

    private static boolean isSeen(Member member) {
        return !Modifier.isPrivate(member.getModifiers()) && !member.isSynthetic();
    }

    private static boolean isFaceName(String name) {
        return FACE.stream().anyMatch(face -> face.contains(" " + name + "("));
    }

    private static String types(Class<?>[] types) {
        StringBuilder text = new StringBuilder("(");
        for (Class<?> type : types) {
            text.append(text.length() > 1 ? ", " : "").append(type.getSimpleName());
        }
        return text.append(")").toString();
    }
}
