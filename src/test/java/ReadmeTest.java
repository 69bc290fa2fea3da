import java.io.IOException;
import java.lang.invoke.MethodHandles;
import java.lang.reflect.Method;
import java.nio.file.Files;
import java.nio.file.Path;
import java.util.ArrayList;
import java.util.List;
import java.util.regex.Matcher;
import java.util.regex.Pattern;
import javax.tools.ToolProvider;

/** Runs the Java of README.md (a helper, then calls) and compares each call with the answer that stands behind it. */
public final class ReadmeTest {
    private static final Pattern BLOCK = Pattern.compile("(?s)```java\n(.*?)```");
    private static final Pattern ASKED = Pattern.compile("(song\\.\\w+\\(.*\\)); +// (-?\\d+|true|false)\\b.*");

    public static void main(String[] args) throws IOException, ReflectiveOperationException {
        Path source = Path.of(System.getProperty("class.source", "src/main/java/DownhillSong.java"));
        // README.md stands at the project's root, four folders above the class.
        Path readme = source.toAbsolutePath().getParent().getParent().getParent().getParent().resolve("README.md");
        List<String> blocks = new ArrayList<>();
        Matcher block = BLOCK.matcher(Files.readString(readme));
        while (block.find()) {
            blocks.add(block.group(1));
        }
        Check.due("blocks of Java in README.md", blocks.size(), 2);
        if (blocks.size() == 2) {
            run(blocks.get(0), calls(blocks.get(1)));
        }
        everyCall(Files.readString(readme));
        Check.finish();
    }

    /** The lines, each call with an answer behind it as one that is compared. */
    private static String calls(String example) {
        StringBuilder lines = new StringBuilder();
        int asked = 0;
        for (String line : example.split("\n")) {
            Matcher call = ASKED.matcher(line);
            if (call.matches()) {
                asked++;
                lines.append("Check.due(\"README: ").append(call.group(1)).append("\", ").append(call.group(1)).append(", ")
                    .append(call.group(2)).append(");\n");
            } else {
                lines.append(line).append('\n');
            }
        }
        Check.due("answers in README.md: " + asked, asked > 20, true);
        return lines.toString();
    }

    private static void run(String helper, String calls) throws IOException, ReflectiveOperationException {
        Path out = Files.createTempDirectory("readme");
        Path file = out.resolve("Example.java");
        Path made = out.resolve("Example.class");
        Files.writeString(file, "public class Example {\n" + helper + "public static void main(String[] args) {\n" + calls + "}\n}\n");
        String path = System.getProperty("java.class.path");
        int failed = ToolProvider.getSystemJavaCompiler().run(null, null, null, "-cp", path, "-d", out.toString(), file.toString());
        Check.due("README.md compiles", failed, 0);
        if (failed == 0) {
            // Check is of no package, and so must the example's loader be Check's own.
            define(Files.readAllBytes(made));
        }
        Files.deleteIfExists(made);
        Files.deleteIfExists(file);
        Files.deleteIfExists(out);
    }

    private static void define(byte[] example) throws ReflectiveOperationException {
        Class<?> made = MethodHandles.lookup().defineClass(example);
        made.getMethod("main", String[].class).invoke(null, (Object) new String[0]);
    }

    /** README.md names each call of the face. */
    private static void everyCall(String readme) {
        for (Method call : DownhillSong.class.getMethods()) {
            if (call.getDeclaringClass() == DownhillSong.class) {
                Check.due("README.md names " + call.getName(), readme.contains("`" + call.getName() + "`"), true);
            }
        }
    }
}
