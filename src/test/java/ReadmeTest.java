import java.io.IOException;
import java.lang.reflect.Method;
import java.lang.reflect.Modifier;
import java.net.URL;
import java.net.URLClassLoader;
import java.nio.file.Files;
import java.nio.file.Path;
import java.util.Set;
import java.util.TreeSet;
import java.util.regex.Matcher;
import java.util.regex.Pattern;
import java.util.stream.Stream;
import javax.tools.ToolProvider;

/** The program that README.md shows, compiled from its text: each call must answer what stands behind it there. */
public final class ReadmeTest {
    private static final Pattern BLOCK = Pattern.compile("(?ms)^```java\n(.*?)^```$");
    private static final Pattern CALL = Pattern.compile("ferry\\.(\\w+)\\((.*)\\);(.*)");
    private static final Pattern ANSWER =
        Pattern.compile(" +// (-?\\d+|Integer\\.MIN_VALUE|Long\\.MIN_VALUE \\+ \\d)(:.*)?");
    private static final Pattern TEXT = Pattern.compile("\"([^\"]*)\"\\.toCharArray");
    private static final int MOST_CALLS = 512;

    private final StringBuilder program = new StringBuilder();
    private final Set<String> shown = new TreeSet<>();
    private int calls = 0;

    public static void main(String[] args) throws IOException, ReflectiveOperationException {
        ReadmeTest test = new ReadmeTest();
        String readme = Files.readString(Path.of("README.md"));
        Matcher block = BLOCK.matcher(readme);
        while (block.find()) {
            block.group(1).lines().forEach(test::translate);
        }
        dueTrue("each call of the face is shown, not " + test.shown + " alone", test.shown.equals(publicNames()));
        dueTrue(test.calls + " calls are asked of one ferry", test.calls <= MOST_CALLS);
        dueTrue("README.md tells for how many calls an object is used", readme.contains("at most 512 calls"));
        namesTests(readme);
        run(test.program.toString());
        Check.end("ReadmeTest");
    }

    /** Public, as the program is loaded apart. */
    public static void due(String call, long got, long want) {
        Check.due("README.md: " + call, got, want);
    }

    private static void dueTrue(String what, boolean got) {
        due(what, got ? 1 : 0, 1);
    }

    private static Set<String> publicNames() {
        Set<String> names = new TreeSet<>();
        for (Method method : AgeFerry.class.getDeclaredMethods()) {
            if (Modifier.isPublic(method.getModifiers())) {
                names.add(method.getName());
            }
        }
        return names;
    }

    /** A call at the start of a line shows its answer; all other lines stand as they are. */
    private void translate(String line) {
        Matcher call = CALL.matcher(line.strip());
        boolean isCall = call.matches();
        if (isCall) {
            shown.add(call.group(1));
            calls++;
        }
        Matcher text = TEXT.matcher(line);
        if (text.find()) {
            calls += text.group(1).length() - 1;
        }
        if (!isCall || line.startsWith(" ")) {
            program.append(line).append('\n');
            return;
        }
        Matcher answer = ANSWER.matcher(call.group(3));
        boolean hasAnswer = answer.matches();
        dueTrue("an answer stands behind " + line, hasAnswer);
        if (hasAnswer) {
            String asked = "ferry." + call.group(1) + "(" + call.group(2) + ")";
            String due = answer.group(1).contains("MIN") ? answer.group(1) : answer.group(1) + "L";
            program.append("ReadmeTest.due(\"").append(asked).append("\", ").append(asked).append(", ")
                .append(due).append(");\n");
        }
    }

    /** Each file of the tests has a word there. */
    private static void namesTests(String readme) throws IOException {
        try (Stream<Path> files = Files.list(Path.of("src/test/java"))) {
            for (Path file : files.toList()) {
                String name = file.getFileName().toString().replace(".java", "");
                dueTrue("it tells of " + name, readme.contains("`" + name + "`"));
            }
        }
    }

    private static void run(String statements) throws IOException, ReflectiveOperationException {
        Path place = Files.createTempDirectory("readme");
        try {
            compile(statements, place);
            try (URLClassLoader loader = new URLClassLoader(new URL[] {place.toUri().toURL()})) {
                Method run = loader.loadClass("ReadmeProgram").getDeclaredMethod("run");
                run.setAccessible(true);
                run.invoke(null);
            }
        } finally {
            delete(place);
        }
    }

    private static void compile(String statements, Path place) throws IOException {
        Path source = place.resolve("ReadmeProgram.java");
        Files.writeString(source, "final class ReadmeProgram {\n    static void run() {\n" + statements + "    }\n}\n");
        int refused = ToolProvider.getSystemJavaCompiler().run(null, null, null, "-encoding", "UTF-8",
            "-cp", System.getProperty("java.class.path"), "-d", place.toString(), source.toString());
        due("javac, of its program", refused, 0);
    }

    private static void delete(Path place) throws IOException {
        try (Stream<Path> files = Files.list(place)) {
            for (Path file : files.toList()) {
                Files.delete(file);
            }
        }
        Files.delete(place);
    }
}
