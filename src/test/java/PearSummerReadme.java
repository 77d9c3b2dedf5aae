import java.lang.reflect.Method;
import java.lang.reflect.Modifier;
import java.net.URL;
import java.net.URLClassLoader;
import java.nio.file.Files;
import java.nio.file.Path;
import java.util.ArrayList;
import java.util.List;
import java.util.regex.Matcher;
import java.util.regex.Pattern;
import java.util.stream.Stream;
import javax.tools.ToolProvider;

/** The examples of README.md, compiled and run as they stand there, answer what README.md says. */
public final class PearSummerReadme {
    private static final Pattern BLOCK = Pattern.compile("(?s)```java\n(.*?)```");
    private static final Pattern CALL = Pattern.compile("^(x\\.\\w+\\(.*\\)); +// (-?\\d+)(:.*)?$");

    public static void main(String[] args) throws Exception {
        List<String> lines = examples(Files.readString(Path.of("README.md")));
        int looked = 0;
        StringBuilder body = new StringBuilder();
        for (String line : lines) {
            Matcher call = CALL.matcher(line);
            boolean isLooked = call.matches();
            looked += isLooked ? 1 : 0;
            body.append(isLooked ? "due(" + quoted(call.group(1)) + ", " + call.group(1) + ", " + call.group(2) + "L);" : line).append('\n');
        }
        int wrong = notThere(String.join("\n", lines)) + run(body.toString());
        System.out.println(wrong == 0 ? looked + " answers are as README.md says" : wrong + " are not as README.md says");
        if (wrong != 0 || looked == 0) {
            System.exit(1);
        }
    }

    private static List<String> examples(String page) {
        List<String> lines = new ArrayList<>();
        Matcher block = BLOCK.matcher(page);
        while (block.find()) {
            lines.addAll(block.group(1).lines().toList());
        }
        return lines;
    }

    private static String quoted(String text) {
        return '"' + text.replace("\\", "\\\\").replace("\"", "\\\"") + '"';
    }

    /** How many methods of the face have no example. */
    private static int notThere(String examples) {
        int many = 0;
        for (Method method : PearSummer.class.getDeclaredMethods()) {
            if (Modifier.isPublic(method.getModifiers()) && !examples.contains("x." + method.getName() + "(")) {
                System.out.println("README.md has no example of " + method.getName());
                many++;
            }
        }
        return many;
    }

    private static int run(String body) throws Exception {
        Path dir = Files.createTempDirectory("readme");
        try {
            Path source = dir.resolve("Examples.java");
            Files.writeString(source, "public final class Examples {\n"
                + "public static int wrong;\n"
                + "static void due(String call, long got, long want) {\n"
                + "if (got != want) { wrong++; System.out.println(call + \" answered \" + got + \", README.md says \" + want); } }\n"
                + "public static void go() {\n" + body + "} }\n");
            int refused = ToolProvider.getSystemJavaCompiler().run(null, null, null,
                "-d", dir.toString(), "-cp", System.getProperty("java.class.path"), source.toString());
            if (refused != 0) {
                System.out.println("the examples of README.md do not compile");
                return 1;
            }
            try (URLClassLoader loader = new URLClassLoader(new URL[] {dir.toUri().toURL()})) {
                Class<?> examples = loader.loadClass("Examples");
                examples.getMethod("go").invoke(null);
                return examples.getField("wrong").getInt(null);
            }
        } finally {
            deleteAll(dir);
        }
    }

    private static void deleteAll(Path dir) throws Exception {
        try (Stream<Path> files = Files.list(dir)) {
            for (Path file : files.toList()) {
                Files.delete(file);
            }
        }
        Files.delete(dir);
    }
}
