import java.io.IOException;
import java.net.URL;
import java.net.URLClassLoader;
import java.nio.file.Files;
import java.nio.file.Path;
import java.util.ArrayList;
import java.util.List;
import java.util.concurrent.Callable;
import java.util.function.Supplier;
import java.util.regex.Matcher;
import java.util.regex.Pattern;

/**
 * The example in README.md (in the working directory) compiles, and each call in it has the answer that stands behind
 * it. The first block of code is the example, the second one holds the functions that it uses.
 */
public final class ReadmeTest {
    private static final String NAME = "ReadmeExample";
    private static final Pattern BLOCK = Pattern.compile("(?s)```java\n(.*?)```");
    private static final Pattern CALL = Pattern.compile("(.+);\\s+// (.+)");

    private static final List<String> calls = new ArrayList<>();
    private static final List<String> answers = new ArrayList<>();

    private ReadmeTest() {
    }

    public static void main(String[] args)
            throws IOException, InterruptedException, ReflectiveOperationException {
        Matcher blocks = BLOCK.matcher(Files.readString(Path.of("README.md")));
        Checks.same("README.md has an example", blocks.find(), true);
        String example = blocks.group(1);
        Checks.same("README.md has the functions of the example", blocks.find(), true);
        Path directory = Files.createTempDirectory("readme");
        try {
            Checks.same("the example compiles", compile(directory, program(example, blocks.group(1))), 0);
            compare(directory);
        } finally {
            Files.deleteIfExists(directory.resolve(NAME + ".class"));
            Files.deleteIfExists(directory.resolve(NAME + ".java"));
            Files.deleteIfExists(directory);
        }
        Checks.finish("ReadmeTest");
    }

    /** A class that gives the calls of the example in a list, and makes none of them itself. */
    private static String program(String example, String functions) {
        StringBuilder text = new StringBuilder();
        text.append("import java.util.*;\nimport java.util.concurrent.Callable;\n");
        text.append("public final class ").append(NAME);
        text.append(" implements java.util.function.Supplier<List<Callable<Object>>> {\n");
        text.append("public List<Callable<Object>> get() {\nList<Callable<Object>> calls = new ArrayList<>();\n");
        for (String line : example.split("\n")) {
            Matcher call = CALL.matcher(line);
            if (call.matches()) {
                calls.add(call.group(1));
                answers.add(call.group(2));
                text.append("calls.add(() -> ").append(call.group(1)).append(");\n");
            } else {
                text.append(line).append('\n');
            }
        }
        return text.append("return calls;\n}\n").append(functions).append("}\n").toString();
    }

    private static int compile(Path directory, String program) throws IOException, InterruptedException {
        Path file = Files.writeString(directory.resolve(NAME + ".java"), program);
        return new ProcessBuilder("javac", "-encoding", "UTF-8", "-classpath", System.getProperty("java.class.path"),
                "-d", directory.toString(), file.toString()).inheritIO().start().waitFor();
    }

    private static void compare(Path directory) throws IOException, ReflectiveOperationException {
        URL[] places = {directory.toUri().toURL()};
        try (URLClassLoader loader = new URLClassLoader(places)) {
            Object example = loader.loadClass(NAME).getDeclaredConstructor().newInstance();
            List<?> made = (List<?>) ((Supplier<?>) example).get();
            for (int i = 0; i < made.size(); i++) {
                Checks.same("README.md: " + calls.get(i), answer((Callable<?>) made.get(i)), answers.get(i));
            }
        }
    }

    private static String answer(Callable<?> call) {
        try {
            Object answer = call.call();
            return answer instanceof Character ? "'" + answer + "'"
                    : answer instanceof String ? "\"" + answer + "\"" : String.valueOf(answer);
        } catch (Exception e) {
            return "throws " + e.getClass().getSimpleName();
        }
    }
}
