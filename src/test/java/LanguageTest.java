import java.nio.file.Files;
import java.nio.file.Path;
import java.util.List;
import java.util.regex.Matcher;
import java.util.regex.Pattern;

/** The rules of LANGUAGE.md that can be seen in the words of the source file. */
public final class LanguageTest {
    private static final Path SOURCE = Path.of("src/main/java/ChangingRounds.java");
    private static final int LONGEST_METHOD = 60;
    private static final List<String> RULED_OUT = List.of(
            "\\bthrow\\b", "\\btry\\b", "\\bcatch\\b", "\\bsynchronized\\b", "\\bassert\\b",
            "\\bimport\\b", "\\bpackage\\b", "\\bprotected\\b", "->", "::", "\\bvar\\b",
            "\\bObject\\b", "\\bfloat\\b", "\\bdouble\\b", "Exact\\b", "\\bhashCode\\b",
            "\\btoString\\b", "\\bSystem\\b", "\\bThread\\b", "\\bnative\\b", "\\bjava\\.");
    private static final Check check = new Check();

    public static void main(String[] args) throws Exception {
        String source = Files.readString(SOURCE);
        check.holds("only signs 1 to 127", source.chars().allMatch(sign -> sign > 0 && sign < 128));
        String code = withoutCommentsAndTexts(source);
        for (String pattern : RULED_OUT) {
            Matcher matcher = Pattern.compile(pattern).matcher(code);
            check.holds("no " + pattern, !matcher.find());
        }
        statics(code);
        classes(code);
        lengths(source);
        check.end();
    }

    private static String withoutCommentsAndTexts(String source) {
        return source.replaceAll("(?s)/\\*.*?\\*/", " ")
                .replaceAll("//[^\n]*", " ")
                .replaceAll("\"[^\"\n]*\"", "\"\"")
                .replaceAll("'[^'\n]'", "' '");
    }

    private static void statics(String code) {
        Matcher fields = Pattern.compile("\\bstatic\\s+(?!final\\b)[^(){};]*[;=]").matcher(code);
        check.holds("every static field is final", !fields.find());
        check.holds("no static block", !Pattern.compile("\\bstatic\\s*\\{").matcher(code).find());
    }

    private static void classes(String code) {
        Matcher classes = Pattern.compile("\\bclass\\s+\\w+").matcher(code);
        int found = 0;
        while (classes.find()) {
            found++;
        }
        check.holds("at most twelve classes", found >= 1 && found <= 12);
    }

    /** A method begins with a line that ends with "{" and ends at the same indent. */
    private static void lengths(String source) {
        String[] lines = source.split("\n");
        for (int i = 0; i < lines.length; i++) {
            Matcher head = Pattern.compile("^( {4}| {8})\\S.*\\) \\{$").matcher(lines[i]);
            if (!head.find()) {
                continue;
            }
            int end = i;
            while (end + 1 < lines.length && !lines[end].equals(head.group(1) + "}")) {
                end++;
            }
            check.holds("short: " + lines[i].trim(), end - i < LONGEST_METHOD);
        }
    }
}
