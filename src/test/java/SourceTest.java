import java.nio.file.Files;
import java.nio.file.Path;
import java.util.List;
import java.util.regex.Matcher;
import java.util.regex.Pattern;

/**
 * Rules of the language that can be seen in the text of the class: 3, 4, 5, 6, 10, 11 and 12. The class catches nothing
 * at all, though rule 6 would let it: so it cannot answer a call by what the machine throws.
 */
public final class SourceTest {
    private static final String[] NEVER = {
        "\\bfinally\\b", "\\btry\\b", "\\bcatch\\b", "\\bsynchronized\\b", "\\bassert\\b", "->", "::", "\\bExact\\b", "\\w+Exact\\(",
        "\\bHashMap\\b", "\\bSystem\\.(?!arraycopy)", "\\bObject\\b", "\\bvar\\b", "@\\w+", "\\bstatic \\{", "\\bdouble\\b",
        "\\bfloat\\b", "\\bpackage\\b", "\\bprotected\\b", "\\.stream\\(", "\\bString\\.", "Math\\.(?!min|max|abs)",
        "\\bthis\\b", "for \\([^;)]*:",
    };

    public static void main(String[] args) throws Exception {
        List<String> lines = Files.readAllLines(Path.of("src/main/java/BergPatrol.java"));
        imports(lines);
        String code = String.join("\n", lines).replaceAll("(?s)/\\*.*?\\*/", "").replaceAll("//[^\n]*", "");
        for (String never : NEVER) {
            Check.same(never + " stands in the class", Pattern.compile(never).matcher(code).find(), false);
        }
        for (char c : String.join("\n", lines).toCharArray()) {
            if (c != '\n' && (c < 32 || c > 126)) {
                Check.same("a sign of the class", c, ' ');
            }
        }
        shortMethods(code);
        constructors(code);
        Check.end();
    }

    private static void imports(List<String> lines) {
        for (String line : lines) {
            if (line.startsWith("import")) {
                Check.same(line, line.matches("import java\\.util\\.(ArrayList|List|Arrays|NoSuchElementException);"), true);
            }
        }
    }

    /** From each line that opens a method to that which closes it, by their indents. */
    private static void shortMethods(String code) {
        String[] lines = code.split("\n");
        for (int i = 0; i < lines.length; i++) {
            if (lines[i].matches(" {4,8}(?!.*\\bclass\\b).*\\) .*\\{|.*\\)\\s*\\{")) {
                String indent = lines[i].replaceAll("\\S.*", "");
                int end = i;
                while (end < lines.length && !lines[end].startsWith(indent + "}")) {
                    end++;
                }
                Check.same("lines from " + lines[i].trim() + " on are few", end - i < 60, true);
            }
        }
    }

    /** An object in the making is handed to none, nor is a part of it, and it throws nothing. */
    private static void constructors(String code) {
        Matcher head = Pattern.compile("(?m)^( +)(?:public )?([A-Z]\\w*)\\(.*\\) \\{$").matcher(code);
        int found = 0;
        while (head.find()) {
            found++;
            String body = code.substring(head.end(), code.indexOf("\n" + head.group(1) + "}", head.end()));
            boolean handsOut = Pattern.compile("\\bnew [\\w<>]+\\([^)]").matcher(body).find();
            Check.same("new " + head.group(2) + "() hands something out", handsOut, false);
            Check.same("new " + head.group(2) + "() throws", body.contains("throw "), false);
        }
        Check.same("constructors, one of each class", found, code.split("\\bclass ").length - 1);
    }
}
