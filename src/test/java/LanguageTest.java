import com.sun.source.tree.CompilationUnitTree;
import com.sun.source.util.JavacTask;
import java.io.File;
import java.io.IOException;
import java.nio.file.Files;
import java.nio.file.Path;
import java.util.ArrayList;
import java.util.List;
import java.util.Map;
import java.util.Set;
import java.util.TreeSet;
import javax.tools.JavaCompiler;
import javax.tools.StandardJavaFileManager;
import javax.tools.ToolProvider;

/** The rules of LANGUAGE.md, as far as the compiler's tree of the class shows them; its path is given by .ci/run. */
public final class LanguageTest {
    private static final int MOST_CLASSES = 12;
    private static final int MOST_FIELDS = 20;
    private static final int MOST_LINES = 60;
    private static final int MOST_PARAMETERS = 7;
    private static final int MOST_DEEP = 8;

    public static void main(String[] args) throws IOException {
        String path = System.getProperty("class.source", "src/main/java/DownhillSong.java");
        String source = Files.readString(Path.of(path));
        Check.due("signs 1 to 127 alone", source.chars().allMatch(c -> c > 0 && c < 128), true);
        Check.due("no package", source.lines().noneMatch(line -> line.startsWith("package")), true);
        LanguageTree tree = read(new File(path));
        Check.due("the tree was read", tree.methods.size() > 100 && tree.classes.size() > 5 && tree.loops > 50, true);
        for (String broken : tree.broken) {
            Check.due(broken + ": broken", 1, 0);
        }
        numbers(tree);
        depths(tree);
        Check.finish();
    }

    private static LanguageTree read(File file) throws IOException {
        JavaCompiler compiler = ToolProvider.getSystemJavaCompiler();
        try (StandardJavaFileManager files = compiler.getStandardFileManager(null, null, null)) {
            List<String> options = List.of("-proc:none");
            JavacTask task = (JavacTask) compiler.getTask(null, files, null, options, null, files.getJavaFileObjects(file));
            List<CompilationUnitTree> units = new ArrayList<>();
            task.parse().forEach(units::add);
            task.analyze();
            LanguageTree tree = new LanguageTree(task, units.get(0));
            tree.scan(units.get(0), null);
            return tree;
        }
    }

    // Rule 11, and rule 1: "No private method bears the name of a public one."
    private static void numbers(LanguageTree tree) {
        Check.due("classes: " + tree.classes.size(), tree.classes.size() <= MOST_CLASSES, true);
        tree.fields.forEach((name, many) -> Check.due("fields of " + name + ": " + many, many <= MOST_FIELDS, true));
        for (LanguageTree.Method method : tree.methods.values()) {
            Check.due("lines of " + method.name + ": " + method.lines, method.lines <= MOST_LINES, true);
            Check.due("parameters of " + method.name, method.parameters <= MOST_PARAMETERS, true);
            boolean likeTheFace = !method.inTheFace && tree.faceNames().contains(method.simpleName);
            Check.due("name of " + method.name, likeTheFace, false);
        }
    }

    // Rule 8: the class has no recursion at all. Rule 11: "calls that are no recursion go at most eight deep".
    private static void depths(LanguageTree tree) {
        int deepest = 0;
        for (String name : tree.methods.keySet()) {
            deepest = Math.max(deepest, depth(tree.methods, name, new TreeSet<>()));
        }
        Check.due("calls go deep: " + deepest, deepest <= MOST_DEEP, true);
        Check.due("calls are seen: " + deepest, deepest > 3, true);
    }

    private static int depth(Map<String, LanguageTree.Method> methods, String name, Set<String> open) {
        if (!open.add(name)) {
            Check.due("recursion through " + open, 1, 0);
            return 0;
        }
        int deepest = 0;
        for (String called : methods.get(name).calls) {
            if (methods.containsKey(called)) {
                deepest = Math.max(deepest, depth(methods, called, open));
            }
        }
        open.remove(name);
        return deepest + 1;
    }
}
