import java.lang.reflect.Executable;
import java.lang.reflect.Field;
import java.lang.reflect.Method;
import java.lang.reflect.Modifier;
import java.nio.file.Files;
import java.nio.file.Path;
import java.util.ArrayList;
import java.util.Arrays;
import java.util.List;
import java.util.Set;
import java.util.TreeSet;
import java.util.regex.Matcher;
import java.util.regex.Pattern;

/** The rules of LANGUAGE.md that the file's text and the compiled class show; the numbers are those of the rules. */
public final class LanguageTest {
    private static final Path FILE = Path.of("src/main/java/DepositCodes.java");
    /** The document names it, so it is thrown though rule 6 does not list it. */
    private static final String THROWN = "ArrayIndexOutOfBoundsException";
    private static final Set<Class<?>> CONSTANTS = Set.of(
        int.class, long.class, boolean.class, char.class, String.class, int[].class, long[].class, char[].class,
        byte[].class);
    private static final Pattern BODY =
        Pattern.compile("(?ms)^( {4}| {8})[^\\s}][^\\n]*\\) (throws \\w+ )?\\{$.*?^\\1\\}$");
    private static final List<Class<?>> CLASSES = classes();

    public static void main(String[] args) throws Exception {
        String text = withoutComments(Files.readString(FILE));
        rule1OnlyTheFaceIsSeen();
        rule1NoPrivateMethodIsNamedLikeAPublicOne();
        rule4OnlyOwnClassesAreNamed(text);
        rule5StaticFieldsAreConstants();
        rule6OneThrowAndNoCatch(text);
        words(text);
        rule11SizesAreSmall(text);
        rule12NothingIsMadeOutsideConstructors(text);
        Due.end("LanguageTest");
    }

    private static List<Class<?>> classes() {
        List<Class<?>> all = new ArrayList<>(List.of(DepositCodes.class));
        all.addAll(Arrays.asList(DepositCodes.class.getDeclaredClasses()));
        return all;
    }

    private static String withoutComments(String text) {
        return text.replaceAll("(?s)/\\*.*?\\*/", "").replaceAll("//[^\n]*", "");
    }

    private static void rule1OnlyTheFaceIsSeen() {
        for (Method method : DepositCodes.class.getDeclaredMethods()) {
            int modifiers = method.getModifiers();
            boolean seen = Modifier.isPublic(modifiers) || Modifier.isPrivate(modifiers);
            Due.due("method " + method.getName() + " is public or private", seen, true);
        }
        for (Field field : DepositCodes.class.getDeclaredFields()) {
            boolean none = field.getName().equals("NONE");
            Due.due("field " + field.getName(), none || Modifier.isPrivate(field.getModifiers()), true);
        }
        for (Class<?> inside : DepositCodes.class.getDeclaredClasses()) {
            int modifiers = inside.getModifiers();
            boolean open = Modifier.isPublic(modifiers) || Modifier.isProtected(modifiers);
            Due.due(inside.getName() + " is not public", open, false);
            Due.due(inside.getName() + " is static", Modifier.isStatic(modifiers), true);
        }
    }

    private static void rule1NoPrivateMethodIsNamedLikeAPublicOne() {
        Set<String> names = new TreeSet<>();
        for (Method method : DepositCodes.class.getDeclaredMethods()) {
            if (Modifier.isPublic(method.getModifiers())) {
                names.add(method.getName());
            }
        }
        for (Class<?> where : CLASSES) {
            for (Method method : where.getDeclaredMethods()) {
                boolean own = !Modifier.isPublic(method.getModifiers());
                Due.due(where.getName() + "." + method.getName(), own && names.contains(method.getName()), false);
            }
        }
    }

    private static void rule4OnlyOwnClassesAreNamed(String text) {
        Set<String> own = new TreeSet<>(List.of(THROWN));
        for (Class<?> where : CLASSES) {
            own.add(where.getSimpleName());
        }
        Matcher names = Pattern.compile("\\b[A-Z]\\w*[a-z]\\w*").matcher(text);
        while (names.find()) {
            Due.due(names.group() + " is a class of the file", own.contains(names.group()), true);
        }
    }

    private static void rule5StaticFieldsAreConstants() {
        for (Class<?> where : CLASSES) {
            for (Field field : where.getDeclaredFields()) {
                if (Modifier.isStatic(field.getModifiers())) {
                    String name = where.getName() + "." + field.getName();
                    Due.due(name + " is final", Modifier.isFinal(field.getModifiers()), true);
                    Due.due(name + " is of a constant's type", CONSTANTS.contains(field.getType()), true);
                }
            }
        }
    }

    private static void rule6OneThrowAndNoCatch(String text) {
        Due.due("throw statements", count(text, "\\bthrow\\b"), 1);
        Due.due("throw statements as the rule writes them", count(text, "\\bthrow new " + THROWN + "\\(\\);"), 1);
        Due.due("try", count(text, "\\b(try|catch|finally)\\b"), 0);
    }

    private static void words(String text) {
        Due.due("package lines", count(text, "\\bpackage\\b"), 0);
        Due.due("rule 2: lambdas and method references", count(text, "->|::"), 0);
        Due.due("rule 3: doubles and floats", count(text, "\\b(double|float)\\b"), 0);
        Due.due("rule 4: imports", count(text, "\\bimport\\b"), 0);
        Due.due("rule 5: static blocks", count(text, "\\bstatic\\s*\\{"), 0);
        Due.due("rule 6: words that are left out", count(text, "\\b(synchronized|assert|volatile|native)\\b"), 0);
        Due.due("rule 6: methods of all objects", count(text, "\\b(equals|hashCode|toString|getClass)\\b"), 0);
        Due.due("texts", count(text, "\""), 0);
    }

    private static void rule11SizesAreSmall(String text) {
        Due.due("classes at most twelve", CLASSES.size() <= 12, true);
        for (Class<?> where : CLASSES) {
            long fields = Arrays.stream(where.getDeclaredFields())
                .filter(field -> !Modifier.isStatic(field.getModifiers())).count();
            Due.due(where.getName() + " has at most twenty fields", fields <= 20, true);
            List<Executable> bodies = new ArrayList<>(Arrays.asList(where.getDeclaredMethods()));
            bodies.addAll(Arrays.asList(where.getDeclaredConstructors()));
            for (Executable body : bodies) {
                Due.due(body + " has at most seven parameters", body.getParameterCount() <= 7, true);
            }
        }
        for (String body : bodies(text)) {
            Due.due("at most sixty lines: " + head(body), body.lines().count() <= 60, true);
        }
    }

    /** So what a run makes is what its constructors make, however long the run is. */
    private static void rule12NothingIsMadeOutsideConstructors(String text) {
        for (String body : bodies(text)) {
            boolean constructor = head(body).matches("(public )?[A-Z]\\w*\\(\\) \\{");
            int made = count(body, "\\bnew\\b") - count(body, "\\bthrow new\\b");
            Due.due("objects made in " + head(body), constructor ? 0 : made, 0);
        }
    }

    /** Methods and constructors: from a line that opens a body to the brace at the same depth. */
    private static List<String> bodies(String text) {
        List<String> found = new ArrayList<>();
        Matcher bodies = BODY.matcher(text);
        while (bodies.find()) {
            found.add(bodies.group());
        }
        int declared = 0;
        for (Class<?> where : CLASSES) {
            declared += where.getDeclaredMethods().length;
        }
        Due.due("bodies are found in the text", found.size() >= declared, true);
        return found;
    }

    private static String head(String body) {
        return body.lines().findFirst().orElse("").trim();
    }

    private static int count(String text, String pattern) {
        return (int) Pattern.compile(pattern).matcher(text).results().count();
    }
}
