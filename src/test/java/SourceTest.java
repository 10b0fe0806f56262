import java.nio.file.Files;
import java.nio.file.Path;
import java.util.List;
import java.util.regex.Pattern;

/**
 * Rules of the language that can be seen in the text of the class: 3, 4, 5, 6, 10 and 11. The class catches nothing at
 * all, though rule 6 would let it: so it cannot answer a call by what the machine throws.
 */
public final class SourceTest {
    private static final String[] NEVER = {
        "\\bfinally\\b", "\\btry\\b", "\\bcatch\\b", "\\bsynchronized\\b", "\\bassert\\b", "->", "::", "\\bExact\\b", "\\w+Exact\\(",
        "\\bHashMap\\b", "\\bSystem\\.(?!arraycopy)", "\\bObject\\b", "\\bvar\\b", "@\\w+", "\\bstatic \\{", "\\bdouble\\b",
        "\\bfloat\\b", "\\bpackage\\b", "\\bprotected\\b", "\\.stream\\(", "\\bString\\.", "Math\\.(?!min|max|abs)",
    };

    public static void main(String[] args) throws Exception {
        List<String> lines = Files.readAllLines(Path.of("src/main/java/BergPatrol.java"));
        imports(lines);
        String code = String.join("\n", lines).replaceAll("(?s)/\\*.*?\\*/", "").replaceAll("//[^\n]*", "");
        for (String never : NEVER) {
            Check.same(never + " stands in the class", Pattern.compile(never).matcher(code).find(), false);
        }
        for (char c : String.join("\n", lines).toCharArray()) {
            if (c != '\n' && (c < 32 || c > 126)) {
                Check.same("a sign of the class", c, ' ');
            }
        }
        shortMethods(code);
        Check.end();
    }

    private static void imports(List<String> lines) {
        for (String line : lines) {
            if (line.startsWith("import")) {
                Check.same(line, line.matches("import java\\.util\\.(ArrayList|List|Arrays|NoSuchElementException);"), true);
            }
        }
    }

    /** From each line that opens a method to that which closes it, by their indents. */
    private static void shortMethods(String code) {
        String[] lines = code.split("\n");
        for (int i = 0; i < lines.length; i++) {
            if (lines[i].matches(" {4,8}(?!.*\\bclass\\b).*\\) .*\\{|.*\\)\\s*\\{")) {
                String indent = lines[i].replaceAll("\\S.*", "");
                int end = i;
                while (end < lines.length && !lines[end].startsWith(indent + "}")) {
                    end++;
                }
                Check.same("lines from " + lines[i].trim() + " on are few", end - i < 60, true);
            }
        }
    }
}
