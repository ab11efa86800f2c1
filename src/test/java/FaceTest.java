import java.lang.reflect.Constructor;
import java.lang.reflect.Field;
import java.lang.reflect.Method;
import java.lang.reflect.Modifier;
import java.util.Arrays;
import java.util.Set;
import java.util.TreeSet;

/** The public face: every constant, the constructor and every method of the document, and no more. */
public final class FaceTest {
    private static final Due DUE = new Due("FaceTest");

    private static final Set<String> METHODS = new TreeSet<>(Arrays.asList(
        "long read(int)", "int write(int,int)", "int writeRun(int,int,int)", "boolean fail(int)",
        "boolean replace(int)", "int rebuild()", "int scrub(int)", "boolean corrupt(int,int,int)",
        "boolean arm(int)", "boolean crash()", "int restart()", "int faults()", "long peek(int,int)",
        "int locate(int)", "int position(int)", "int mode()", "int logged()", "int spares()",
        "int reads()", "int writes()"));

    private static final String[] CONSTANTS = {
        "BAD", "DOWN", "BROKEN", "TORN", "IDLE", "DEGRADED", "UNSURE", "UP", "GONE"};

    public static void main(String[] args) throws ReflectiveOperationException {
        Class<?> type = DualParityArray.class;
        DUE.is("public and final", type.getModifiers(), Modifier.PUBLIC | Modifier.FINAL);
        constants(type);
        methods(type);
        constructors(type);
        for (Class<?> inside : type.getDeclaredClasses()) {
            DUE.is(inside.getName() + " is static", Modifier.isStatic(inside.getModifiers()), true);
            DUE.is(inside.getName() + " is public", Modifier.isPublic(inside.getModifiers()), false);
        }
        DUE.end();
    }

    private static void constants(Class<?> type) throws ReflectiveOperationException {
        for (int i = 0; i < CONSTANTS.length; i++) {
            Field constant = type.getField(CONSTANTS[i]);
            DUE.is(CONSTANTS[i], constant.getInt(null), -1 - i);
            DUE.is(CONSTANTS[i] + " modifiers", constant.getModifiers(),
                Modifier.PUBLIC | Modifier.STATIC | Modifier.FINAL);
            DUE.is(CONSTANTS[i] + " is int", constant.getType() == int.class, true);
        }
        int seen = 0;
        for (Field field : type.getDeclaredFields()) {
            seen += Modifier.isPrivate(field.getModifiers()) ? 0 : 1;
        }
        DUE.is("fields that are not private", seen, CONSTANTS.length);
    }

    private static void methods(Class<?> type) {
        Set<String> seen = new TreeSet<>();
        Set<String> publicNames = new TreeSet<>();
        for (Method method : type.getDeclaredMethods()) {
            if (!Modifier.isPrivate(method.getModifiers())) {
                seen.add(face(method));
                publicNames.add(method.getName());
                DUE.is(face(method) + " modifiers", method.getModifiers(), Modifier.PUBLIC);
            }
        }
        DUE.is("the methods " + seen, seen.equals(METHODS), true);
        for (Method method : type.getDeclaredMethods()) {
            if (Modifier.isPrivate(method.getModifiers())) {
                DUE.is("private " + method.getName(), publicNames.contains(method.getName()), false);
            }
        }
    }

    private static String face(Method method) {
        StringBuilder text = new StringBuilder(method.getReturnType() + " " + method.getName() + "(");
        for (Class<?> parameter : method.getParameterTypes()) {
            text.append(text.charAt(text.length() - 1) == '(' ? "" : ",").append(parameter);
        }
        return text.append(")").toString();
    }

    private static void constructors(Class<?> type) throws ReflectiveOperationException {
        DUE.is("constructors", type.getDeclaredConstructors().length, 1);
        Constructor<?> constructor = type.getConstructor(int.class, int.class, int.class);
        DUE.is("constructor modifiers", constructor.getModifiers(), Modifier.PUBLIC);
    }
}
