import java.io.IOException;
import java.nio.file.Files;
import java.nio.file.Path;
import java.util.regex.Matcher;
import java.util.regex.Pattern;

/** What a look at the source can tell of LANGUAGE.md's rules. The source's path is the first argument. */
public final class LanguageTest {
    private static final String[] RULED_OUT = {
        "\\b(throw|throws|try|catch|finally|synchronized|assert|import|package|native|volatile|transient)\\b",
        "->", "::", "@\\w+", "\\bnew \\w+(<\\w*>)?\\([^;]*\\) *\\{", "\\w+Exact\\b",
        "\\b(hashCode|toString|equals|getClass|clone|finalize)\\b", "\\bstatic *\\{", "\\+ *\"", "\" *\\+",
        "\\b(Object|Exception|Error|Random|Thread|Runtime|Optional|Stream|Character|Double|Float)\\b",
        "\\bSystem\\.(?!arraycopy\\b)", "\\bMath\\.(?!(abs|max|min|floorDiv|floorMod)\\b)",
        "\\bstatic (?!final\\b|class\\b|boolean \\w+\\(|int \\w+\\()", "[^\\x00-\\x7f]",
    };

    public static void main(String[] args) throws IOException {
        Check check = new Check();
        String source = Files.readString(Path.of(args[0]));
        String code = source.replaceAll("(?s)/\\*.*?\\*/", "").replaceAll("//[^\n]*", "");
        for (String rule : RULED_OUT) {
            Matcher m = Pattern.compile(rule).matcher(code);
            while (m.find()) {
                check.holds("nothing of " + rule + ": \"" + m.group() + "\"", false);
            }
        }
        int classes = 0;
        Matcher named = Pattern.compile("\\bclass \\w+").matcher(code);
        while (named.find()) {
            classes++;
        }
        check.holds("at most twelve classes: " + classes, classes <= 12);
        methods(check, code);
        objects(check, code);
        check.end();
    }

    private static void methods(Check check, String code) {
        Matcher m = Pattern.compile("(?m)^( {4}| {8})(?=\\S)[\\w\\[\\] ]+ (\\w+)\\(([^)]*)\\) \\{\n").matcher(code);
        int seen = 0;
        while (m.find()) {
            seen++;
            int end = code.indexOf("\n" + m.group(1) + "}", m.end() - 1);
            long lines = code.substring(m.end(), Math.max(end, m.end())).lines().count();
            check.holds(m.group(2) + " is short: " + lines + " lines", lines <= 60);
            check.holds(m.group(2) + " has few parameters", m.group(3).split(",").length <= 7);
        }
        check.holds("methods are seen: " + seen, seen > 60);
    }

    /** Rows are made once, with the object, and no call makes another. */
    private static void objects(Check check, String code) {
        String made = "(private )?final [\\w\\[\\]]+ \\w+ = new .*;|kinds\\[\\d\\] = new \\w+\\(\\);";
        long seen = 0;
        for (String line : code.lines().filter(l -> l.contains("new ")).map(String::strip).toList()) {
            seen++;
            check.holds("only fields and the constructor make objects: " + line, line.matches(made));
        }
        check.holds("objects are seen: " + seen, seen > 0);
    }
}
