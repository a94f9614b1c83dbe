import java.nio.file.Files;
import java.nio.file.Path;
import java.util.List;
import java.util.regex.Matcher;
import java.util.regex.Pattern;

/** Rules of LANGUAGE.md that can be seen in the text of the program; run from the project's folder. */
public final class LanguageTest {
    private static final String[] FORBIDDEN = {
        "^package ", "^import ", "->", "::", "\\bcatch\\b", "\\bfinally\\b", "\\bsynchronized\\b", "\\bassert\\b",
        "\\bstatic \\{", "\\bDouble\\.", "\\bFloat\\.", "\\bInteger\\.M", "Exact\\(", "\\bvar\\b", "\\bObject\\b", "\\bMath\\.random",
        "\\bSystem\\.(?!arraycopy)", "\\.hashCode\\(", "\\.toString\\(", "\\bThread\\b", "\\bException\\b",
        "\\bThrowable\\b", "\\bError\\b", "\\bNullPointerException\\b", "\" \\+", "\\+ \"", "\\binstanceof\\b",
    };
    private static final int MOST_LINES = 60;
    private static final int MOST_PARAMETERS = 7;

    private static void forbidden(List<String> lines) {
        for (int i = 0; i < lines.size(); i++) {
            String line = lines.get(i);
            if (line.trim().startsWith("*") || line.trim().startsWith("/")) {
                continue;
            }
            for (String pattern : FORBIDDEN) {
                if (Pattern.compile(pattern).matcher(line).find()) {
                    Check.report("line " + (i + 1) + " holds " + pattern + ": " + line.trim());
                }
            }
            if (!line.chars().allMatch(c -> c >= 32 && c < 127)) {
                Check.report("line " + (i + 1) + " holds a sign that is not plain");
            }
        }
    }

    private static void methods(List<String> lines) {
        int found = 0;
        Pattern head = Pattern.compile("^( ++)(?!if|for|while|switch)[\\w\\[\\] ]+\\(([^)]*)\\)[\\w, ]*\\{$");
        for (int i = 0; i < lines.size(); i++) {
            Matcher m = head.matcher(lines.get(i));
            if (!m.find()) {
                continue;
            }
            found++;
            int end = i;
            while (end < lines.size() && !lines.get(end).equals(m.group(1) + "}")) {
                end++;
            }
            if (end - i > MOST_LINES) {
                Check.report("line " + (i + 1) + " begins a method of " + (end - i) + " lines");
            }
            if (m.group(2).split(",").length > MOST_PARAMETERS) {
                Check.report("line " + (i + 1) + " has too many parameters");
            }
        }
        if (found < 28) {
            Check.report("only " + found + " methods were found");
        }
    }

    public static void main(String[] args) throws Exception {
        List<String> lines = Files.readAllLines(Path.of("src/main/java/LitDigits.java"));
        forbidden(lines);
        methods(lines);
        Check.end();
    }
}
