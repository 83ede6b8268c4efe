import java.io.IOException;
import java.nio.file.Files;
import java.nio.file.Path;
import java.util.regex.Matcher;
import java.util.regex.Pattern;

/** The rules of LANGUAGE.md that show in the text of the program. Run where src lies. */
public final class LanguageTest {
    private static final int MOST_LINES = 60;
    private static final int MOST_PARAMETERS = 7;
    private static final int MOST_CLASSES = 12;
    private static final Pattern METHOD =
        Pattern.compile("^( {4}| {8})(?!if|for|while|switch)(?:(?:public|private|static|final) )*[\\w\\[\\]]+ ?\\w*\\(([^)]*)\\) \\{$");

    public static void main(String[] args) throws IOException {
        String source = Files.readString(Path.of("src/main/java/TanRow.java"));
        String code = source.replaceAll("(?s)/\\*.*?\\*/|//[^\n]*", "").replaceAll("\"[^\"\n]*\"", "\"\"");
        none(code, "rule 2: no lambda, no method reference", "->|::");
        none(code, "rule 4: no other import", "import (?!java\\.util\\.(Arrays|ArrayList|List|Iterator);)");
        none(code, "rule 4: no Exact", "Exact\\b");
        none(code, "rule 5: static fields are final", "\\bstatic (?!final\\b)[\\w\\[\\]]+ \\w+ *[=;]");
        none(code, "rule 5: no static block", "\\bstatic *\\{");
        none(code, "rule 6", "\\b(throw|throws|try|catch|finally|synchronized|assert)\\b");
        none(code, "rule 6: no equals, hashCode, toString of one's own", "\\b(equals|hashCode|toString) *\\(");
        none(code, "rule 10: texts are not joined by +", "\"\" *\\+|\\+ *\"\"");
        none(code, "rule 13", "\\b(System\\.(?!arraycopy\\b)|Thread|Random|random)\\b");
        none(source, "rule 4: signs 1 to 127", "[^\\x01-\\x7f]");
        none(source, "no package", "(?m)^package ");
        Checks.due("rule 11: classes", count(code, "\\b(class|record|enum|interface) \\w") <= MOST_CLASSES ? 1 : 0, 1);
        methodsAreShort(source);
        Checks.end();
    }

    private static void none(String text, String rule, String pattern) {
        Matcher m = Pattern.compile(pattern).matcher(text);
        boolean found = m.find();
        Checks.due(rule + (found ? ": " + m.group() : ""), found ? 1 : 0, 0);
    }

    private static int count(String text, String pattern) {
        return (int) Pattern.compile(pattern).matcher(text).results().count();
    }

    /** A method ends with the first brace that stands as far in as its head. */
    private static void methodsAreShort(String source) {
        String[] lines = source.split("\n");
        int methods = 0;
        for (int i = 0; i < lines.length; i++) {
            Matcher m = METHOD.matcher(lines[i]);
            if (m.matches()) {
                methods++;
                int end = i;
                while (end < lines.length - 1 && !lines[end].equals(m.group(1) + "}")) {
                    end++;
                }
                Checks.due("rule 11: short" + lines[i], end - i < MOST_LINES ? 1 : 0, 1);
                int parameters = m.group(2).isEmpty() ? 0 : m.group(2).split(",").length;
                Checks.due("rule 11: parameters" + lines[i], parameters <= MOST_PARAMETERS ? 1 : 0, 1);
            }
        }
        Checks.due("the methods were found", methods > 37 ? 1 : 0, 1);
    }
}
