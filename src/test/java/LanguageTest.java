import java.io.IOException;
import java.lang.reflect.Field;
import java.lang.reflect.Method;
import java.lang.reflect.Modifier;
import java.nio.file.Files;
import java.nio.file.Path;
import java.util.regex.Matcher;
import java.util.regex.Pattern;

/** The rules of LANGUAGE.md that can be seen in the program's text or by reflection. */
public final class LanguageTest {
    private static final Due DUE = new Due("LanguageTest");
    private static final Path SOURCE = Path.of("src/main/java/DualParityArray.java");

    private static final String[] FORBIDDEN = {
        "\\bpackage\\b", "\\bimport\\b", "\\bthrows?\\b", "\\btry\\b", "\\bcatch\\b", "\\bfinally\\b",
        "\\bsynchronized\\b", "\\bassert\\b", "\\bnative\\b", "\\bvolatile\\b", "\\bvar\\b", "->", "::", "@",
        "static\\s*\\{", "\\bSystem\\.(?!arraycopy)", "\\bThread\\b", "\\w+Exact\\b", "\\bObject\\b"};

    public static void main(String[] args) throws IOException {
        String code = withoutComments(Files.readString(SOURCE));
        for (String pattern : FORBIDDEN) {
            Matcher found = Pattern.compile(pattern).matcher(code);
            DUE.is("text " + pattern, found.find(), false);
        }
        Class<?> type = DualParityArray.class;
        DUE.is("at most twelve classes", 1 + type.getDeclaredClasses().length <= 12, true);
        lookAt(type);
        for (Class<?> inside : type.getDeclaredClasses()) {
            lookAt(inside);
        }
        DUE.end();
    }

    private static String withoutComments(String text) {
        return text.replaceAll("(?s)/\\*.*?\\*/", "").replaceAll("//[^\n]*", "");
    }

    private static void lookAt(Class<?> type) {
        int own = 0;
        for (Field field : type.getDeclaredFields()) {
            boolean isStatic = Modifier.isStatic(field.getModifiers());
            own += isStatic ? 0 : 1;
            DUE.is(field + " is final if static", !isStatic || Modifier.isFinal(field.getModifiers()), true);
        }
        DUE.is(type + " has at most twenty fields", own <= 20, true);
        for (Method method : type.getDeclaredMethods()) {
            DUE.is(method + " takes at most seven", method.getParameterCount() <= 7, true);
        }
    }
}
