import java.io.File;
import java.io.IOException;
import java.lang.reflect.Method;
import java.lang.reflect.Modifier;
import java.net.URL;
import java.net.URLClassLoader;
import java.nio.file.Files;
import java.nio.file.Path;
import java.util.ArrayList;
import java.util.List;
import java.util.regex.Matcher;
import java.util.regex.Pattern;

/**
 * What README.md says is so: each of its examples compiles with the class, every call in it that is told with
 * an answer behind "//" answers that, and every call of the class and every test of the project is named.
 */
public final class ReadmeTest {
    private static final String README = "README.md";
    private static final Pattern EXAMPLE = Pattern.compile("(?s)```java\n(.*?)```");
    private static final Pattern CALL =
        Pattern.compile("(?:(int|long) (\\w+) = )?(x\\..*); *// (?:(-?\\d+)|([A-Z_]+))(?::.*)?");
    private static final Checker CHECK = new Checker();

    public static void main(String[] args) throws Exception {
        String readme = Files.readString(Path.of(README)).replace("\r", "");
        List<String> examples = examples(readme);
        CHECK.due("examples", Math.min(examples.size(), 3), 3);
        for (int i = 0; i < examples.size(); i++) {
            run("Example" + i, examples.get(i));
        }
        calls(readme);
        tests(readme);
        CHECK.finish();
    }

    /** Called by the examples. */
    public static void due(String what, long got, long want) {
        CHECK.due(what, got, want);
    }

    private static List<String> examples(String readme) {
        List<String> examples = new ArrayList<>();
        Matcher matcher = EXAMPLE.matcher(readme);
        while (matcher.find()) {
            examples.add(matcher.group(1));
        }
        return examples;
    }

    /** The example as a class, in which every answer that is told is looked at. */
    private static String program(String name, String example) {
        StringBuilder program = new StringBuilder("public final class " + name + " {\npublic static void run() {\n");
        for (String line : example.split("\n")) {
            Matcher call = CALL.matcher(line);
            boolean isTold = call.matches();
            // Else the answer that the line tells would be looked at by none.
            CHECK.due("call in '" + line + "'", isTold || !line.contains("//") ? 1 : 0, 1);
            if (!isTold) {
                program.append(line).append('\n');
                continue;
            }
            String want = call.group(4) != null ? call.group(4) : "PantographArm." + call.group(5);
            String got = call.group(3);
            if (call.group(1) != null) {
                program.append(call.group(1) + " " + call.group(2) + " = " + got + ";\n");
                got = call.group(2);
            }
            program.append("ReadmeTest.due(\"README: " + call.group(3).replace("\"", "\\\"") + "\", "
                + got + ", " + want + ");\n");
        }
        return program.append("}\n}\n").toString();
    }

    private static void run(String name, String example) throws Exception {
        Path folder = Files.createTempDirectory("readme");
        try {
            Path source = folder.resolve(name + ".java");
            Files.writeString(source, program(name, example));
            int exit = new ProcessBuilder("javac", "-cp", System.getProperty("java.class.path"),
                "-d", folder.toString(), source.toString()).inheritIO().start().waitFor();
            CHECK.due("javac of\n" + example, exit, 0);
            if (exit == 0) {
                try (URLClassLoader loader = new URLClassLoader(new URL[] {folder.toUri().toURL()})) {
                    loader.loadClass(name).getMethod("run").invoke(null);
                }
            }
        } finally {
            delete(folder.toFile());
        }
    }

    private static void delete(File folder) throws IOException {
        for (File file : folder.listFiles()) {
            Files.delete(file.toPath());
        }
        Files.delete(folder.toPath());
    }

    private static void calls(String readme) {
        for (Method method : PantographArm.class.getDeclaredMethods()) {
            if (Modifier.isPublic(method.getModifiers())) {
                named(readme, method.getName());
            }
        }
    }

    private static void tests(String readme) {
        for (File file : new File("src/test/java").listFiles()) {
            if (file.getName().endsWith("Test.java")) {
                named(readme, file.getName().replace(".java", ""));
            }
        }
        named(readme, "src/test/java/*Test.java");
        named(readme, "../shared/tests");
        CHECK.due("the script that runs the tests", readme.contains("```\n.ci/run\n```") ? 1 : 0, 1);
        CHECK.due("it can be run", new File(".ci/run").canExecute() ? 1 : 0, 1);
    }

    private static void named(String readme, String name) {
        CHECK.due("README names " + name, readme.contains("`" + name + "`") ? 1 : 0, 1);
    }
}
