import java.nio.file.Files;
import java.nio.file.Path;
import java.util.List;
import java.util.regex.Matcher;
import java.util.regex.Pattern;

/** What of LANGUAGE.md can be seen in the text of the program. */
public final class LanguageTest {
    private static final Path PROGRAM = Path.of("src/main/java/VotedRiver.java");
    private static final String[] FORBIDDEN = {
        "\\bthrow\\b", "\\btry\\b", "\\bcatch\\b", "\\bsynchronized\\b", "\\bassert\\b", "->", "::",
        "\\bpackage\\b", "\\bprotected\\b", "Exact\\b", "\\bequals\\b", "\\bhashCode\\b", "\\btoString\\b",
        "\\bThread\\b", "\\bRandom\\b", "\\bSystem\\.(?!arraycopy)", "\\binstanceof\\b", "\\bvar\\b",
        "\\bfloat\\b", "\\bdouble\\b", "\" *\\+", "\\+ *\""};
    private static final Pattern HEAD =
            Pattern.compile("^( +)(?:private |public |static |final )*[\\w\\[\\]]+ \\w+\\(([^)]*)\\) \\{$");

    public static void main(String[] args) throws Exception {
        List<String> lines = Files.readAllLines(PROGRAM);
        String code = withoutComments(String.join("\n", lines));
        for (String forbidden : FORBIDDEN) {
            Matcher matcher = Pattern.compile(forbidden).matcher(code);
            Check.due(forbidden + " stands in the program", matcher.find(), false);
        }
        Matcher imports = Pattern.compile("(?m)^import (?!java\\.util\\.Arrays;)").matcher(code);
        Check.due("another import", imports.find(), false);
        int classes = 0;
        Matcher heads = Pattern.compile("\\b(class|record|enum|interface) \\w+").matcher(code);
        while (heads.find()) {
            classes++;
        }
        Check.due("some twelve classes at most", classes <= 12, true);
        checkMethods(lines);
        checkObjects(lines);
        Check.finish();
    }

    private static String withoutComments(String text) {
        return text.replaceAll("(?s)/\\*.*?\\*/", "").replaceAll("//[^\n]*", "");
    }

    private static void checkMethods(List<String> lines) {
        int methods = 0;
        for (int i = 0; i < lines.size(); i++) {
            Matcher head = HEAD.matcher(lines.get(i));
            if (!head.matches()) {
                continue;
            }
            methods++;
            int end = i;
            while (!lines.get(end).equals(head.group(1) + "}")) {
                end++;
            }
            Check.due(lines.get(i) + " is short", end - i + 1 <= 60, true);
            Check.due(lines.get(i) + " has few parameters", head.group(2).split(",").length <= 7, true);
        }
        Check.due("methods were found", methods > 100, true);
    }

    /** Objects are made in fields and constructors alone, so that a call makes none. */
    private static void checkObjects(List<String> lines) {
        boolean inConstructor = false;
        for (String line : lines) {
            if (line.matches(" +(public )?[A-Z]\\w+\\([^)]*\\) \\{")) {
                inConstructor = true;
            } else if (line.matches("( {4}| {8})\\}")) {
                inConstructor = false;
            }
            boolean field = line.matches(" +(private )?final [\\w\\[\\]]+ \\w+ = new .*;");
            if (line.matches(".*\\bnew \\w.*") && !field) {
                Check.due("an object is made by a constructor alone: " + line, inConstructor, true);
            }
        }
    }
}
