import java.io.IOException;
import java.nio.file.Files;
import java.nio.file.Path;
import java.util.regex.Matcher;
import java.util.regex.Pattern;

/** Those rules of LANGUAGE.md that can be seen in the text of the class; its path is given by .ci/run. */
public final class LanguageTest {
    private static final String[] FORBIDDEN = {"\\b(throw|throws|try|catch|finally|synchronized|assert|protected|default\\s+void)\\b",
        "->", "::", "\\bnew\\s+\\w+(<\\w*>)?\\([^;]*\\)\\s*\\{", "@", "\\bvar\\b", "\"\\s*\\+|\\+\\s*\"", "static\\s*\\{",
        "\\b(System\\.(?!arraycopy)|Random|Thread|File|Object|Exception|HashMap|Map|Set|Optional|Stream)\\b",
        "import (?!java\\.util\\.Arrays;)", "\\bpackage\\b", "Exact\\b", "\\b(hashCode|getClass|toString)\\b"};

    public static void main(String[] args) throws IOException {
        String path = System.getProperty("class.source", "src/main/java/DownhillSong.java");
        String source = Files.readString(Path.of(path));
        String code = source.replaceAll("(?s)/\\*.*?\\*/", "").replaceAll("//[^\\n]*", "");
        for (String rule : FORBIDDEN) {
            Matcher matcher = Pattern.compile(rule).matcher(code);
            boolean found = matcher.find();
            Check.due(rule + (found ? " found: " + matcher.group() : ""), found, false);
        }
        Check.due("signs 1 to 127 alone", source.chars().allMatch(c -> c < 128), true);
        Check.due("classes", Pattern.compile("\\bclass\\b").matcher(code).results().count() <= 12, true);
        staticFields(code);
        methods(code);
        Check.finish();
    }

    private static void staticFields(String code) {
        Matcher fields = Pattern.compile("static ([^;({=]*)[;=]").matcher(code);
        while (fields.find()) {
            Check.due("static field " + fields.group(1), fields.group(1).matches("final (int|long|boolean|char|String|(int|long|char|byte)\\[\\]) \\w+ *"), true);
        }
    }

    private static void methods(String code) {
        Matcher heads = Pattern.compile("(?m)^( +)[\\w\\[\\] ]+ (\\w+)\\(([^)]*)\\) \\{$").matcher(code);
        int seen = 0;
        while (heads.find()) {
            if (heads.group().matches("\\s*(if|for|while|switch|else|return).*")) {
                continue;
            }
            seen++;
            int end = code.indexOf("\n" + heads.group(1) + "}", heads.end());
            long lines = code.substring(heads.start(), end).lines().count() + 1;
            Check.due("lines of " + heads.group(2) + ": " + lines, lines <= 60, true);
            Check.due("parameters of " + heads.group(2), heads.group(3).split(",").length <= 7, true);
        }
        Check.due("methods seen: " + seen, seen > 100, true);
    }
}
