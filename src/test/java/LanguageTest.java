import java.io.IOException;
import java.nio.charset.StandardCharsets;
import java.nio.file.Files;
import java.nio.file.Paths;
import java.util.List;
import java.util.regex.Pattern;

/**
 * A rough look at the text of TankPlant.java for what LANGUAGE.md forbids; it finds what is
 * easily overlooked, and does not prove that all rules are kept. It is run from the root.
 */
public final class LanguageTest {
    private static final String SOURCE = "src/main/java/TankPlant.java";
    private static final int LONGEST_METHOD = 60;
    private static final String[] FORBIDDEN = {
        "\\bpackage\\b", "->", "::", "\\bfinally\\b", "\\bsynchronized\\b", "\\bassert\\b", "\\bcatch\\b",
        "\\bstatic \\{", "Exact\\(", "\\bMath\\.(sqrt|floor|ceil|round|rint)\\(", "\\bvar\\b", "\\bSystem\\.(?!arraycopy)",
        "\\bObject\\b", "\\bequals\\(", "\\bhashCode\\(", "\\btoString\\(", "\"\\s*\\+", "\\+\\s*\"", "\\bimport\\b",
        "[^\\x00-\\x7f]", "\\bwhile \\(true\\)", "\\bfor \\(;;\\)", "\\t",
    };

    private static final Due due = new Due();

    public static void main(String[] args) throws IOException {
        List<String> lines = Files.readAllLines(Paths.get(SOURCE), StandardCharsets.UTF_8);
        for (String forbidden : FORBIDDEN) {
            Pattern pattern = Pattern.compile(forbidden);
            for (int i = 0; i < lines.size(); i++) {
                due.holds("line " + (i + 1) + " has no " + forbidden, !pattern.matcher(lines.get(i)).find());
            }
        }
        lengthsOfMethods(lines);
        due.end();
    }

    /** A method ends with a brace that stands as far in as its first line does. */
    private static void lengthsOfMethods(List<String> lines) {
        for (int i = 0; i < lines.size(); i++) {
            String line = lines.get(i);
            String start = line.replaceAll("\\S.*", "");
            boolean isMethod = line.contains("(") && !line.trim().startsWith("*") && (start.length() == 4 || start.length() == 8);
            if (!isMethod || line.trim().endsWith(";")) {
                continue;
            }
            int end = i;
            while (end < lines.size() && !lines.get(end).equals(start + "}")) {
                end++;
            }
            due.holds("the method in line " + (i + 1) + " is short", end - i < LONGEST_METHOD);
        }
    }
}
