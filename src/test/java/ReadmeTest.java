import java.io.IOException;
import java.lang.reflect.Method;
import java.lang.reflect.Modifier;
import java.net.URL;
import java.net.URLClassLoader;
import java.nio.file.Files;
import java.nio.file.Path;
import java.util.regex.Matcher;
import java.util.regex.Pattern;
import java.util.stream.Stream;

/** README.md's lines of Java, as one program: each call with a number behind // must answer it. */
public final class ReadmeTest {
    private static final Pattern BLOCK = Pattern.compile("```java\n(.*?)```", Pattern.DOTALL);
    private static final Pattern CALL = Pattern.compile("\\s*(x\\.\\w+\\(.*\\)); +// (-?\\d+|true|false)\\b.*");
    private static final Pattern TOLD_NAME = Pattern.compile("`(\\w+)(\\(.*?\\))?`");
    private static final Checks CHECKS = new Checks();

    public static void main(String[] args) throws Exception {
        String readme = Files.readString(Path.of("README.md"));
        StringBuilder members = new StringBuilder();
        StringBuilder body = new StringBuilder();
        Matcher block = BLOCK.matcher(readme);
        while (block.find()) {
            boolean isMember = block.group(1).startsWith("static ");
            (isMember ? members : body).append(isMember ? block.group(1) : withChecks(block.group(1)));
        }
        runProgram("public final class ReadmeProgram {\n" + members
            + "public static void run(Checks checks) {\n" + body + "}\n}\n");
        for (Method m : AsleepInside.class.getDeclaredMethods()) {
            if (Modifier.isPublic(m.getModifiers())) {
                CHECKS.due(m.getName() + " is named", names(readme, m.getName()), true);
            }
        }
        CHECKS.end();
    }

    /** Calls whose answer is told become checks of it; all other lines stay. */
    private static String withChecks(String lines) {
        StringBuilder out = new StringBuilder();
        for (String line : lines.split("\n")) {
            Matcher call = CALL.matcher(line);
            CHECKS.due("an answer is told in: " + line, line.contains("//"), call.matches());
            if (call.matches()) {
                String what = call.group(1);
                out.append("checks.due(\"").append(what).append("\", ").append(what).append(", ").append(call.group(2));
                out.append(");\n");
            } else {
                out.append(line).append('\n');
            }
        }
        return out.toString();
    }

    private static boolean names(String readme, String name) {
        Matcher told = TOLD_NAME.matcher(readme);
        while (told.find()) {
            if (told.group(1).equals(name)) {
                return true;
            }
        }
        return false;
    }

    private static void runProgram(String program) throws Exception {
        Path folder = Files.createTempDirectory("readme");
        try {
            Path source = Files.writeString(folder.resolve("ReadmeProgram.java"), program);
            String classPath = System.getProperty("java.class.path");
            int failed = new ProcessBuilder("javac", "-cp", classPath, "-d", folder.toString(), source.toString())
                .inheritIO().start().waitFor();
            CHECKS.due("README.md compiles", failed, 0);
            if (failed == 0) {
                load(folder);
            }
        } finally {
            wipe(folder);
        }
    }

    private static void load(Path folder) throws Exception {
        try (URLClassLoader loader = new URLClassLoader(new URL[] {folder.toUri().toURL()})) {
            loader.loadClass("ReadmeProgram").getMethod("run", Checks.class).invoke(null, CHECKS);
        }
    }

    private static void wipe(Path folder) throws IOException {
        try (Stream<Path> files = Files.list(folder)) {
            for (Path file : files.toList()) {
                Files.delete(file);
            }
        }
        Files.delete(folder);
    }
}
