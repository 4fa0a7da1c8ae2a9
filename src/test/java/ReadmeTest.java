import java.io.IOException;
import java.lang.reflect.Method;
import java.lang.reflect.Modifier;
import java.net.URL;
import java.net.URLClassLoader;
import java.nio.charset.StandardCharsets;
import java.nio.file.Files;
import java.nio.file.Path;
import java.util.regex.Matcher;
import java.util.regex.Pattern;

// The examples of README.md are one program, and each call answers with the number that stands behind it. All methods
// of the class come up in them. It is run from the project's folder.
public final class ReadmeTest {
    private static final Pattern BLOCK = Pattern.compile("```java\n(.*?)```", Pattern.DOTALL);
    private static final Pattern CALL = Pattern.compile("(game\\.\\w+\\(.*\\));\\s*// (-?\\d+)(:.*)?");

    private static int calls = 0;

    public static void main(String[] args) throws Exception {
        String readme = Files.readString(Path.of("README.md"), StandardCharsets.UTF_8);
        int wrong = missing(readme) + run(program(readme));
        System.out.println(wrong == 0 ? calls + " examples answer as they say" : wrong + " faults in README.md");
        if (wrong != 0) System.exit(1);
    }

    private static int missing(String readme) {
        int missing = 0;
        for (Method method : DoodleAlbums.class.getDeclaredMethods()) {
            boolean promised = Modifier.isPublic(method.getModifiers());
            if (promised && !readme.contains("game." + method.getName() + "(")) {
                missing++;
                System.out.println("README.md has no example of " + method.getName());
            }
        }
        return missing;
    }

    private static String program(String readme) {
        StringBuilder functions = new StringBuilder();
        StringBuilder body = new StringBuilder();
        Matcher block = BLOCK.matcher(readme);
        while (block.find()) {
            String code = block.group(1);
            if (code.startsWith("static ")) {
                functions.append(code);
            } else {
                for (String line : code.split("\n")) body.append(statement(line)).append('\n');
            }
        }
        return "public final class Examples {\n"
            + "    private static int wrong = 0;\n"
            + "    private static void due(String call, int got, int want) {\n"
            + "        if (got == want) return;\n"
            + "        wrong++;\n"
            + "        System.out.println(call + \" answered \" + got + \", README.md says \" + want);\n"
            + "    }\n"
            + functions
            + "    public static int run() {\n"
            + body
            + "        return wrong;\n"
            + "    }\n"
            + "}\n";
    }

    private static String statement(String line) {
        Matcher call = CALL.matcher(line);
        if (!call.matches()) return line;
        calls++;
        String name = call.group(1).replace("\\", "\\\\").replace("\"", "\\\"");
        return "due(\"" + name + "\", " + call.group(1) + ", " + call.group(2) + ");";
    }

    /** How many examples do not answer as they say. */
    private static int run(String program) throws Exception {
        Path folder = Files.createTempDirectory("readme");
        try {
            Path source = folder.resolve("Examples.java");
            Files.writeString(source, program, StandardCharsets.UTF_8);
            ProcessBuilder compiler = new ProcessBuilder("javac", "-encoding", "UTF-8",
                "-cp", System.getProperty("java.class.path"), "-d", folder.toString(), source.toString());
            if (compiler.inheritIO().start().waitFor() != 0) {
                System.out.println("the examples do not compile");
                return 1;
            }
            try (URLClassLoader loader = new URLClassLoader(new URL[] {folder.toUri().toURL()})) {
                return (int) loader.loadClass("Examples").getMethod("run").invoke(null);
            }
        } finally {
            delete(folder);
        }
    }

    private static void delete(Path folder) throws IOException {
        try (var files = Files.list(folder)) {
            for (Path file : (Iterable<Path>) files::iterator) Files.delete(file);
        }
        Files.delete(folder);
    }
}
