import java.io.File;
import java.net.URL;
import java.net.URLClassLoader;
import java.nio.file.Files;
import java.nio.file.Path;
import java.util.ArrayList;
import java.util.List;
import java.util.regex.Matcher;
import java.util.regex.Pattern;
import javax.tools.ToolProvider;

/** The calls that README.md shows, each against the answer beside it; run from the project's root. */
public final class ReadmeTest {
    private static final Pattern SHOWN =
        Pattern.compile("(?:int (\\w+) = )?(yard\\.\\w+\\(.*?\\));\\s*// (-?\\d+|VOID)\\b.*");
    private static final int LEAST_SHOWN = 25;

    public static void main(String[] args) throws Exception {
        Path out = Files.createTempDirectory("readme");
        Path source = out.resolve("Shown.java");
        out.toFile().deleteOnExit();
        source.toFile().deleteOnExit();
        out.resolve("Shown.class").toFile().deleteOnExit();
        Files.writeString(source, program(Files.readAllLines(Path.of("README.md"))));
        String path = System.getProperty("java.class.path");
        int refused = ToolProvider.getSystemJavaCompiler()
            .run(null, null, null, "-cp", path, "-d", out.toString(), source.toString());
        if (refused != 0) {
            System.exit(1);
        }
        // One loader for all of it: Check is seen within its own package alone.
        List<URL> from = new ArrayList<>(List.of(out.toUri().toURL()));
        for (String entry : path.split(File.pathSeparator)) {
            from.add(new File(entry).toURI().toURL());
        }
        URLClassLoader loader = new URLClassLoader(from.toArray(new URL[0]), ClassLoader.getPlatformClassLoader());
        loader.loadClass("Shown").getMethod("main", String[].class).invoke(null, (Object) args);
    }

    /** All blocks of Java in one program; a call with an answer beside it becomes a check. */
    private static String program(List<String> lines) {
        StringBuilder text = new StringBuilder("public class Shown { public static void main(String[] args) {\n");
        text.append("Check check = new Check(\"readme\");\n");
        boolean inBlock = false;
        int shown = 0;
        for (String line : lines) {
            Matcher call = SHOWN.matcher(line);
            if (line.startsWith("```")) {
                inBlock = line.equals("```java");
            } else if (inBlock && call.matches()) {
                text.append(asCheck(call, "answer" + shown)).append('\n');
                shown++;
            } else if (inBlock) {
                text.append(line).append('\n');
            }
        }
        text.append("check.is(\"enough calls shown\", ").append(shown >= LEAST_SHOWN ? 1 : 0).append(", 1);\n");
        return text.append("check.done(); } }\n").toString();
    }

    private static String asCheck(Matcher call, String otherName) {
        String name = call.group(1) == null ? otherName : call.group(1);
        String due = call.group(3).equals("VOID") ? "HireYard.VOID" : call.group(3);
        return "int " + name + " = " + call.group(2) + ";\n"
            + "check.is(\"" + call.group(2) + "\", " + name + ", " + due + ");";
    }
}
