import java.io.IOException;
import java.nio.file.Files;
import java.nio.file.Path;
import java.util.List;
import java.util.regex.Matcher;
import java.util.regex.Pattern;

/** Those rules of LANGUAGE.md that the program's text shows. It runs in the project's folder. */
public final class LanguageTest {
    private static final Path PROGRAM = Path.of("src/main/java/DewPond.java");

    private static final String[] RULED_OUT = {
        "\\bpackage\\b", "\\bimport\\b", "->", "::", "\\bfinally\\b", "\\bsynchronized\\b", "\\bassert\\b",
        "\\btry\\b", "\\bcatch\\b", "\\bprotected\\b", "\\bvar\\b", "\\bObject\\b", "@\\w+",
        "\\bSystem\\.(?!arraycopy)", "\\bMath\\.(?!min\\b|max\\b|abs\\b|floorMod\\b)", "Exact\\b",
        "\\b(equals|hashCode|toString)\\b", "\\bstatic\\s*\\{", "\\bwhile\\s*\\(\\s*true", "\\bfor\\s*\\(\\s*;",
        "\"\\s*\\+", "\\+\\s*\"",
    };

    public static void main(String[] args) throws IOException {
        String whole = Files.readString(PROGRAM);
        for (int k = 0; k < whole.length(); k++) {
            if (whole.charAt(k) > 126) {
                Check.fault("a sign beyond 126 at " + k);
            }
        }
        String bare = whole.replaceAll("(?s)/\\*.*?\\*/", "").replaceAll("//[^\n]*", "");
        ruledOut(bare);
        throwsAreWritten(bare);
        lengths(bare);
        Check.end();
    }

    private static void ruledOut(String text) {
        // What stands in a text between quotes is no program, but the quotes are kept.
        String program = text.replaceAll("\"[^\"\n]*\"", "\"\"");
        for (String rule : RULED_OUT) {
            Matcher found = Pattern.compile(rule).matcher(program);
            boolean isThere = found.find();
            Check.due("the program holds " + (isThere ? found.group() : ""), isThere, false);
        }
    }

    private static void throwsAreWritten(String text) {
        Pattern written = Pattern.compile("throw new (IllegalStateException|IllegalArgumentException"
                + "|IndexOutOfBoundsException)\\((\"[^\"\n]*\")?\\);");
        Matcher any = Pattern.compile("\\bthrow\\b[^\n]*").matcher(text);
        while (any.find()) {
            Check.due("written by rule 6: " + any.group(), written.matcher(any.group()).matches(), true);
        }
    }

    /** Methods of at most sixty lines and seven parameters, and at most twelve classes. */
    private static void lengths(String text) {
        List<String> lines = text.lines().toList();
        Pattern head = Pattern.compile("^( {4}| {8})(\\w+ )*(\\w+(\\[\\])? )?\\w+\\((.*)");
        int classes = 0;
        for (int k = 0; k < lines.size(); k++) {
            String line = lines.get(k);
            classes += line.matches(".*\\bclass \\w+ \\{") ? 1 : 0;
            Matcher found = head.matcher(line);
            if (found.matches() && !line.contains(";") && !line.matches(" +(if|for|while|switch|return|throw)\\b.*")) {
                int end = k;
                while (!lines.get(end).equals(found.group(1) + "}")) {
                    end++;
                }
                Check.due("a method of at most 60 lines: " + line, end - k < 60, true);
                Check.due("at most 7 parameters: " + line, found.group(5).split(",").length <= 7, true);
            }
        }
        Check.due("at most 12 classes", classes <= 12, true);
    }
}
