import java.io.IOException;
import java.lang.reflect.Field;
import java.lang.reflect.Method;
import java.lang.reflect.Modifier;
import java.nio.file.Files;
import java.nio.file.Path;
import java.util.HashSet;
import java.util.Set;
import java.util.regex.Matcher;
import java.util.regex.Pattern;

/** The rules of LANGUAGE.md that can be seen in the program's text or by reflection. */
public final class LanguageTest {
    private static final Due DUE = new Due("LanguageTest");
    private static final Path SOURCE = Path.of("src/main/java/DualParityArray.java");

    private static final String[] FORBIDDEN = {
        "\\bpackage\\b", "\\bimport\\b", "\\bthrows?\\b", "\\btry\\b", "\\bcatch\\b", "\\bfinally\\b",
        "\\bsynchronized\\b", "\\bassert\\b", "\\bnative\\b", "\\bvolatile\\b", "\\bvar\\b", "->", "::", "@",
        "static\\s*\\{", "\\bSystem\\.(?!arraycopy)", "\\bThread\\b", "\\w+Exact\\b", "\\bObject\\b",
        "\\bprotected\\b", "\\bequals\\b", "\\bhashCode\\b", "\\btoString\\b", "\"", "\\bdouble\\b", "\\bfloat\\b"};

    private static final Set<Class<?>> TYPES_OF_CONSTANTS = Set.of(
        int.class, long.class, boolean.class, char.class, String.class,
        int[].class, long[].class, char[].class, byte[].class);

    public static void main(String[] args) throws IOException {
        String code = withoutComments(Files.readString(SOURCE));
        for (String pattern : FORBIDDEN) {
            Matcher found = Pattern.compile(pattern).matcher(code);
            DUE.is("text " + pattern, found.find(), false);
        }
        objectsAreMadeByConstructorsAlone(code);
        methodsAreShort(code);
        Class<?> type = DualParityArray.class;
        DUE.is("at most twelve classes", 1 + type.getDeclaredClasses().length <= 12, true);
        Set<String> face = publicNames(type);
        lookAt(type, face);
        for (Class<?> inside : type.getDeclaredClasses()) {
            lookAt(inside, face);
        }
        DUE.end();
    }

    private static String withoutComments(String text) {
        return text.replaceAll("(?s)/\\*.*?\\*/", "").replaceAll("//[^\n]*", "");
    }

    /** All calls of a run live in one room: so what is made is kept in a final field, which a constructor alone sets. */
    private static void objectsAreMadeByConstructorsAlone(String code) {
        Matcher made = Pattern.compile("([^\n;]*)\\bnew\\b").matcher(code);
        int seen = 0;
        while (made.find()) {
            seen++;
            Matcher kept = Pattern.compile("\\s*this\\.(\\w+) = ").matcher(made.group(1));
            boolean isKept = kept.matches();
            DUE.is("kept by a constructor: " + made.group(), isKept, true);
            if (isKept) {
                Pattern field = Pattern.compile("private final [\\w\\[\\]]+ " + kept.group(1) + ";");
                DUE.is("final field " + kept.group(1), field.matcher(code).find(), true);
            }
        }
        DUE.is("makings seen", seen > 0, true);
    }

    private static void methodsAreShort(String code) {
        Matcher method = Pattern.compile("(?m)^( +)[\\w\\[\\] ]+\\([^)]*\\) \\{\n(?s:.*?)\n\\1\\}$").matcher(code);
        int seen = 0;
        while (method.find()) {
            seen++;
            long lines = method.group().lines().count();
            DUE.is("at most sixty lines: " + method.group().lines().findFirst().orElse(""), lines <= 60, true);
        }
        DUE.is("methods seen", seen > 20, true);
    }

    private static Set<String> publicNames(Class<?> type) {
        Set<String> names = new HashSet<>();
        for (Method method : type.getDeclaredMethods()) {
            if (Modifier.isPublic(method.getModifiers())) {
                names.add(method.getName());
            }
        }
        return names;
    }

    private static void lookAt(Class<?> type, Set<String> face) {
        int own = 0;
        for (Field field : type.getDeclaredFields()) {
            if (Modifier.isStatic(field.getModifiers())) {
                DUE.is(field + " is final", Modifier.isFinal(field.getModifiers()), true);
                DUE.is(field + " may be a constant", TYPES_OF_CONSTANTS.contains(field.getType()), true);
            } else {
                own++;
                DUE.is(field + " is private", Modifier.isPrivate(field.getModifiers()), true);
            }
        }
        DUE.is(type + " has at most twenty fields", own <= 20, true);
        for (Method method : type.getDeclaredMethods()) {
            DUE.is(method + " takes at most seven", method.getParameterCount() <= 7, true);
            boolean isPrivate = Modifier.isPrivate(method.getModifiers());
            DUE.is(method + " is private with a public name", isPrivate && face.contains(method.getName()), false);
        }
    }
}
