import java.io.File;
import java.net.URL;
import java.net.URLClassLoader;
import java.nio.file.Files;
import java.nio.file.Path;
import java.util.regex.Matcher;
import java.util.regex.Pattern;
import javax.tools.ToolProvider;

/** The Java lines of README.md, one program: where a number stands behind a call's //, the call answers it. */
public final class ReadmeTest {
    private static final Pattern BLOCK = Pattern.compile("(?s)```java\\n(.*?)```");
    private static final Pattern CALL = Pattern.compile("(x\\.\\w+\\(.*\\));\\s*// (-?\\d+)\\b.*");
    private static int wrong = 0;
    private static int asked = 0;

    public static void due(String call, long got, long want) {
        asked++;
        if (got != want) {
            wrong++;
            System.out.println("README: " + call + " answered " + got + ", it says " + want);
        }
    }

    public static void main(String[] args) throws Exception {
        Path folder = Files.createTempDirectory("readme");
        Path program = folder.resolve("Readme.java");
        Files.writeString(program, program(Files.readString(Path.of("README.md"))));
        int fails = ToolProvider.getSystemJavaCompiler().run(null, null, null, "-cp",
            System.getProperty("java.class.path"), "-d", folder.toString(), program.toString());
        if (fails == 0) {
            try (URLClassLoader loader = new URLClassLoader(new URL[] {folder.toUri().toURL()})) {
                loader.loadClass("Readme").getMethod("run").invoke(null);
            }
        }
        for (File made : folder.toFile().listFiles()) {
            made.delete();
        }
        Files.delete(folder);
        System.out.println(wrong == 0 ? asked + " answers are as README says" : wrong + " answers are not as README says");
        if (fails != 0 || wrong != 0 || asked == 0) {
            System.exit(1);
        }
    }

    private static String program(String readme) {
        StringBuilder lines = new StringBuilder("public class Readme { public static void run() {\n");
        Matcher block = BLOCK.matcher(readme);
        while (block.find()) {
            for (String line : block.group(1).split("\n")) {
                Matcher call = CALL.matcher(line.strip());
                lines.append(call.matches()
                    ? "ReadmeTest.due(\"" + call.group(1) + "\", " + call.group(1) + ", " + call.group(2) + ");" : line);
                lines.append('\n');
            }
        }
        return lines.append("} }\n").toString();
    }
}
