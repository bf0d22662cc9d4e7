import java.lang.reflect.Constructor;
import java.lang.reflect.Field;
import java.lang.reflect.Method;
import java.lang.reflect.Modifier;
import java.util.Set;
import java.util.TreeSet;

/** The public face: the document's constructor and methods, and nothing else that can be seen. */
public final class FaceTest {
    private static final Set<String> DUE = Set.of(
            "int type(long) BAD STATE",
            "int keep(int) BAD",
            "int run(int,int) BAD NOT_THERE ARITHMETIC STATE TOO_MANY",
            "int ask(int) BAD NOT_THERE ARITHMETIC STATE TOO_MANY",
            "int value(int,int) NOT_THERE",
            "int row(int,int,int) BAD NOT_THERE",
            "void begin() STATE",
            "int end() STATE",
            "int back() STATE",
            "int count(int)");

    public static void main(String[] args) {
        Checks checks = new Checks();
        Class<?> face = QueryStore.class;
        checks.isTrue("the class is public and final",
                Modifier.isPublic(face.getModifiers()) && Modifier.isFinal(face.getModifiers()));
        Constructor<?>[] constructors = face.getDeclaredConstructors();
        checks.same("constructors", constructors.length, 1);
        checks.isTrue("the constructor is public", Modifier.isPublic(constructors[0].getModifiers()));
        checks.same("the constructor's parameters", constructors[0].getParameterCount(), 0);
        Set<String> publicNames = lookAtMethods(checks, face);
        for (Method method : face.getDeclaredMethods()) {
            if (Modifier.isPrivate(method.getModifiers())) {
                checks.isTrue("no private method named " + method.getName(),
                        !publicNames.contains(method.getName()));
            }
        }
        for (Field field : face.getDeclaredFields()) {
            checks.isTrue(field.getName() + " is private", Modifier.isPrivate(field.getModifiers()));
            checks.isTrue(field.getName() + ", if static, is final", !Modifier.isStatic(field.getModifiers())
                    || Modifier.isFinal(field.getModifiers()));
        }
        for (Class<?> inside : face.getDeclaredClasses()) {
            int modifiers = inside.getModifiers();
            checks.isTrue(inside.getName() + " is static and not public", Modifier.isStatic(modifiers)
                    && !Modifier.isPublic(modifiers) && !Modifier.isProtected(modifiers));
        }
        checks.finish();
    }

    private static Set<String> lookAtMethods(Checks checks, Class<?> face) {
        Set<String> found = new TreeSet<>();
        Set<String> names = new TreeSet<>();
        for (Method method : face.getDeclaredMethods()) {
            if (!Modifier.isPrivate(method.getModifiers())) {
                found.add(described(method));
                names.add(method.getName());
                checks.isTrue(method.getName() + " is public and not static",
                        Modifier.isPublic(method.getModifiers()) && !Modifier.isStatic(method.getModifiers()));
            }
        }
        checks.sameText("the face", found.toString(), new TreeSet<>(DUE).toString());
        return names;
    }

    private static String described(Method method) {
        StringBuilder line = new StringBuilder();
        line.append(method.getReturnType().getName()).append(' ').append(method.getName()).append('(');
        for (int i = 0; i < method.getParameterCount(); i++) {
            line.append(i == 0 ? "" : ",").append(method.getParameterTypes()[i].getName());
        }
        line.append(')');
        for (Class<?> thrown : method.getExceptionTypes()) {
            line.append(' ').append(shortName(thrown));
        }
        return line.toString();
    }

    private static String shortName(Class<?> thrown) {
        if (thrown == Checks.BAD) {
            return "BAD";
        }
        if (thrown == Checks.NOT_THERE) {
            return "NOT_THERE";
        }
        if (thrown == Checks.ARITHMETIC) {
            return "ARITHMETIC";
        }
        if (thrown == Checks.STATE) {
            return "STATE";
        }
        return thrown == Checks.TOO_MANY ? "TOO_MANY" : thrown.getName();
    }
}
