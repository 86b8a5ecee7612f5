import java.io.IOException;
import java.lang.reflect.Method;
import java.lang.reflect.Modifier;
import java.net.URL;
import java.net.URLClassLoader;
import java.nio.file.Files;
import java.nio.file.Path;
import java.util.ArrayList;
import java.util.List;
import java.util.regex.Matcher;
import java.util.regex.Pattern;

/** The run of calls in README.md: each line answers what stands behind it. */
public final class ReadmeTest {
    private static final Pattern BLOCK = Pattern.compile("```java\n(.*?)```", Pattern.DOTALL);
    private static final Pattern ANSWERED = Pattern.compile("(?:(int \\w+) = )?(.*); +// (.*)");

    private final StringBuilder program = new StringBuilder();
    private final List<String> calls = new ArrayList<>();
    private final List<String> due = new ArrayList<>();

    public static void main(String[] args) throws IOException, InterruptedException, ReflectiveOperationException {
        String readme = Files.readString(Path.of("README.md"));
        new ReadmeTest().run(readme);
        whatIsTold(readme);
        Check.end("ReadmeTest");
    }

    private void run(String readme) throws IOException, InterruptedException, ReflectiveOperationException {
        Matcher block = BLOCK.matcher(readme);
        while (block.find()) {
            block.group(1).lines().forEach(this::translate);
        }
        List<String> got = answers();
        Check.is("README: lines with an answer", got.size(), due.size());
        for (int line = 0; line < Math.min(got.size(), due.size()); line++) {
            Check.is("README: line " + (line + 1) + ", " + calls.get(line), got.get(line), due.get(line));
        }
    }

    private void translate(String line) {
        Matcher answered = ANSWERED.matcher(line);
        if (!answered.matches()) {
            program.append(line).append('\n');
            return;
        }
        String name = answered.group(1);
        String call = answered.group(2);
        calls.add(call);
        due.add(answered.group(3));
        if (name == null) {
            program.append("try { answers.add(String.valueOf(").append(call).append(")); } ")
                    .append("catch (RuntimeException e) { answers.add(e.getClass().getSimpleName()); }\n");
        } else {
            program.append(name).append(" = ").append(call).append(";\n")
                    .append("answers.add(String.valueOf(").append(name.substring(4)).append("));\n");
        }
    }

    private List<String> answers() throws IOException, InterruptedException, ReflectiveOperationException {
        Path directory = Files.createTempDirectory("readme");
        Path source = directory.resolve("ReadmeRun.java");
        Files.writeString(source, "public final class ReadmeRun {\n"
                + "public static void run(java.util.List<String> answers) {\n" + program + "}\n}\n");
        int exit = new ProcessBuilder("javac", "-d", directory.toString(),
                "-cp", System.getProperty("java.class.path"), source.toString()).inheritIO().start().waitFor();
        Check.is("README: compiles", exit, 0);
        List<String> answers = new ArrayList<>();
        if (exit == 0) {
            try (URLClassLoader loader = new URLClassLoader(new URL[] {directory.toUri().toURL()})) {
                loader.loadClass("ReadmeRun").getMethod("run", List.class).invoke(null, answers);
            }
        }
        Files.deleteIfExists(directory.resolve("ReadmeRun.class"));
        Files.delete(source);
        Files.delete(directory);
        return answers;
    }

    /** Every call of the face is named on the page, and how the tests are run. */
    private static void whatIsTold(String readme) {
        for (Method method : PolicyEngine.class.getDeclaredMethods()) {
            if (Modifier.isPublic(method.getModifiers())) {
                String name = method.getName();
                boolean isNamed = readme.contains("`" + name + "`") || readme.contains("engine." + name + "(");
                Check.is("README: names " + name, isNamed, true);
            }
        }
        Check.is("README: tells how an object is made", readme.contains("new PolicyEngine()"), true);
        Check.is("README: tells of refused calls", readme.contains("### A refused call"), true);
        Check.is("README: tells how the tests are run", readme.contains(".ci/run"), true);
    }
}
