import java.io.IOException;
import java.lang.invoke.MethodHandles;
import java.nio.file.Files;
import java.nio.file.Path;
import java.util.ArrayList;
import java.util.Comparator;
import java.util.List;
import java.util.Set;
import java.util.TreeSet;
import java.util.regex.Matcher;
import java.util.regex.Pattern;
import java.util.stream.Stream;

/** What README.md says is so: its blocks of Java are compiled and run, each call with the answer in its comment. */
public final class ReadmeTest {
    private static final Pattern LINE =
        Pattern.compile("\\s*((?:int|long|boolean) (\\w+) = )?(x\\.(\\w+)\\(.*\\)); *// (.*)");
    private static final Set<String> FACE = Set.of(
        "width", "read", "back", "digit", "check", "good", "machine", "shape", "full", "power", "give", "reason",
        "count", "join", "double2", "mark", "coupon", "redeem", "shop", "clear", "cleared", "fraud");
    private static final String CLASS = "ReadmeCalls";

    public static void main(String[] args) throws Exception {
        List<String> readme = Files.readAllLines(Path.of("README.md"));
        theCallsAnswerAsShown(readme);
        theTestsAreThoseThatThereAre(readme);
        Due.end("ReadmeTest");
    }

    private static void theCallsAnswerAsShown(List<String> readme) throws Exception {
        Set<String> shown = new TreeSet<>();
        StringBuilder program = new StringBuilder("final class " + CLASS + " {\n");
        List<String> blocks = new ArrayList<>();
        boolean inside = false;
        for (String line : readme) {
            if (line.startsWith("```")) {
                inside = line.equals("```java");
                if (inside) {
                    blocks.add("block" + blocks.size() + "();\n");
                }
                program.append(inside ? "static void block" + (blocks.size() - 1) + "() {\n" : "}\n");
            } else if (inside) {
                program.append(checked(line, shown)).append('\n');
            }
        }
        program.append("public static void main(String[] args) {\n").append(String.join("", blocks)).append("}\n}\n");
        Due.due("blocks of Java", blocks.size() > 0, true);
        Due.due("methods with an answer shown: " + shown, shown.equals(FACE), true);
        runCompiled(program.toString());
    }

    /** A line of the README as it runs: with a look at the answer, if its comment tells one. */
    private static String checked(String line, Set<String> shown) {
        Matcher parts = LINE.matcher(line);
        if (!parts.matches()) {
            Due.due("a comment behind what is no call: " + line, line.contains("//"), false);
            return line;
        }
        shown.add(parts.group(4));
        String call = parts.group(3);
        String answer = parts.group(5).split(":")[0].trim();
        if (answer.startsWith("throws ")) {
            return "{ boolean thrown = false; try { " + call + "; } catch (" + answer.substring(7)
                + " e) { thrown = true; } Due.due(\"" + call + " throws\", thrown, true); }";
        }
        String due = answer.equals("NONE") ? "DepositCodes.NONE" : answer;
        if (parts.group(1) == null) {
            return "Due.due(\"" + call + "\", " + call + ", " + due + ");";
        }
        String name = parts.group(2);
        return parts.group(1) + call + "; Due.due(\"" + name + "\", " + name + ", " + due + ");";
    }

    private static void runCompiled(String program) throws Exception {
        Path folder = Files.createTempDirectory("readme");
        try {
            Path file = Files.writeString(folder.resolve(CLASS + ".java"), program);
            String classes = System.getProperty("java.class.path");
            int status = new ProcessBuilder("javac", "--release", "17", "-cp", classes, "-d", folder.toString(),
                file.toString()).inheritIO().start().waitFor();
            Due.due("compiling the README's calls", status, 0);
            if (status == 0) {
                runFrom(folder);
            }
        } finally {
            remove(folder);
        }
    }

    /** Defined beside this test, so that the calls count at the same Due. */
    private static void runFrom(Path folder) throws Exception {
        byte[] code = Files.readAllBytes(folder.resolve(CLASS + ".class"));
        Class<?> calls = MethodHandles.lookup().defineClass(code);
        calls.getDeclaredMethod("main", String[].class).invoke(null, (Object) new String[0]);
    }

    private static void remove(Path folder) throws IOException {
        try (Stream<Path> found = Files.walk(folder)) {
            for (Path path : found.sorted(Comparator.reverseOrder()).toList()) {
                Files.delete(path);
            }
        }
    }

    private static void theTestsAreThoseThatThereAre(List<String> readme) throws IOException {
        Set<String> told = new TreeSet<>();
        for (String line : readme) {
            if (line.startsWith("| ")) {
                Matcher names = Pattern.compile("\\w+Test\\b").matcher(line.split("\\|")[1]);
                while (names.find()) {
                    told.add(names.group());
                }
            }
        }
        Set<String> there = new TreeSet<>();
        try (Stream<Path> files = Files.list(Path.of("src/test/java"))) {
            files.map(file -> file.getFileName().toString()).filter(name -> name.endsWith("Test.java"))
                .forEach(name -> there.add(name.substring(0, name.length() - ".java".length())));
        }
        Due.due("README's table of tests " + told + " is that of " + there, told.equals(there), true);
    }
}
