import java.io.IOException;
import java.lang.reflect.Field;
import java.lang.reflect.Method;
import java.lang.reflect.Modifier;
import java.nio.file.Files;
import java.nio.file.Path;
import java.util.ArrayList;
import java.util.Arrays;
import java.util.HashSet;
import java.util.List;
import java.util.Set;
import java.util.regex.Matcher;
import java.util.regex.Pattern;

/** Rules of ../shared/LANGUAGE.md that can be read off the program's text or its classes. */
public final class LanguageTest {
    private static final Path PROGRAM = Path.of("src/main/java/EdgeFinder.java");
    // Rule 4 would let some of java.util in; the program does without any library.
    private static final String[] FORBIDDEN = {
        "import", "package", "protected", "synchronized", "assert", "finally", "try", "catch", "native",
        "volatile", "transient", "System", "Thread", "Object", "equals", "hashCode", "toString"};
    private static final Set<String> THROWN = Set.of("IllegalArgumentException", "IndexOutOfBoundsException");

    public static void main(String[] args) throws IOException {
        String text = Files.readString(PROGRAM);
        String code = withoutCommentsAndTexts(text);
        noForbiddenWord(code);
        noLambdaNorMethodReference(code);
        onlyTheDocumentsExceptions(code);
        onlyConstructorsMakeObjects(code);
        List<Class<?>> all = new ArrayList<>(Arrays.asList(EdgeFinder.class.getDeclaredClasses()));
        nestedClassesAreHiddenAndStatic(all);
        all.add(EdgeFinder.class);
        Checks.due("at most twelve classes", all.size() <= 12, true);
        for (Class<?> one : all) {
            fields(one);
            methods(one);
        }
        methodsAreShort(text);
        Checks.end();
    }

    private static String withoutCommentsAndTexts(String text) {
        return text.replaceAll("(?s)/\\*.*?\\*/", "").replaceAll("//[^\n]*", "")
            .replaceAll("\"[^\"\n]*\"", "\"\"");
    }

    private static void noForbiddenWord(String code) {
        for (String word : FORBIDDEN) {
            boolean found = Pattern.compile("\\b" + word + "\\b").matcher(code).find();
            Checks.due("the word " + word + " in the program", found, false);
        }
        Checks.due("a static block", Pattern.compile("static\\s*\\{").matcher(code).find(), false);
    }

    private static void noLambdaNorMethodReference(String code) {
        Checks.due("-> in the program", code.contains("->"), false);
        Checks.due(":: in the program", code.contains("::"), false);
    }

    private static void onlyTheDocumentsExceptions(String code) {
        Matcher thrown = Pattern.compile("\\bthrow\\s+(new\\s+(\\w+)\\(\"?\"?\\);)?").matcher(code);
        while (thrown.find()) {
            Checks.due("thrown: " + thrown.group(2), THROWN.contains(String.valueOf(thrown.group(2))), true);
        }
    }

    /** Rule 12 counts what a run makes: rows come with the object, and a call makes only what it throws. */
    private static void onlyConstructorsMakeObjects(String code) {
        String rest = code.replaceFirst("(?s)public EdgeFinder\\(\\) \\{.*?\\n    \\}", "")
            .replaceAll("(?m)^        final \\w+\\[\\] \\w+ = new ", "")
            .replace("throw new ", "");
        Checks.due("a call makes an object", Pattern.compile("\\bnew\\b").matcher(rest).find(), false);
    }

    private static void nestedClassesAreHiddenAndStatic(List<Class<?>> nested) {
        for (Class<?> one : nested) {
            int modifiers = one.getModifiers();
            Checks.due(one + " is static", Modifier.isStatic(modifiers), true);
            Checks.due(one + " is public", Modifier.isPublic(modifiers), false);
            Checks.due(one + " is protected", Modifier.isProtected(modifiers), false);
        }
    }

    private static void fields(Class<?> one) {
        int beside = 0;
        for (Field field : one.getDeclaredFields()) {
            if (Modifier.isStatic(field.getModifiers())) {
                Checks.due(field + " is final", Modifier.isFinal(field.getModifiers()), true);
            } else {
                beside++;
            }
        }
        Checks.due(one + " has at most twenty fields", beside <= 20, true);
    }

    private static void methods(Class<?> one) {
        Set<String> face = new HashSet<>();
        for (Method method : EdgeFinder.class.getDeclaredMethods()) {
            if (Modifier.isPublic(method.getModifiers())) {
                face.add(method.getName());
            }
        }
        for (Method method : one.getDeclaredMethods()) {
            Checks.due(method + " has at most seven parameters", method.getParameterCount() <= 7, true);
            boolean ofTheFace = Modifier.isPublic(method.getModifiers());
            Checks.due(method + " bears a public name", !ofTheFace && face.contains(method.getName()), false);
        }
    }

    /** A method ends at the first line that closes a brace at the method's own depth. */
    private static void methodsAreShort(String text) {
        String head = "^((?:    ){1,2})(?=\\S)[^=;\n]*\\([^;=]*?\\{\n";
        Matcher method = Pattern.compile("(?m)" + head + "(?s:.*?)\n\\1\\}$").matcher(text);
        int found = 0;
        while (method.find()) {
            found++;
            long lines = method.group().lines().count();
            Checks.due(method.group().lines().findFirst().get().trim() + " is short", lines <= 60, true);
        }
        Checks.due("methods were found", found > 20, true);
    }
}
