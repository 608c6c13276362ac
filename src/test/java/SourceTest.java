import java.nio.file.Files;
import java.nio.file.Path;
import java.util.regex.Matcher;
import java.util.regex.Pattern;

/** The rules of LANGUAGE.md that can be seen in the source's words; run from the project's root. */
public final class SourceTest {
    private static final String[] FORBIDDEN = {
        "\\b(throw|throws|try|catch|synchronized|assert|package|Thread|Random|System\\.(?!arraycopy)\\w+)\\b",
        "->", "::", "\\bstatic\\s*\\{", "\\)\\s*\\{\\s*@Override", "\\w+Exact\\s*\\(", "\\bimport\\s+(?!java\\.util\\.Arrays;)",
        "\\b(hashCode|toString|getClass)\\s*\\(", "\\bvar\\b", "\\bObject\\b", "(double|float)\\b",
        "\\[\\]\\s*\\[\\]\\s*\\[\\]", "while\\s*\\(true\\)", "for\\s*\\(;"};
    private static int wrong = 0;

    private static void check(boolean right, String what) {
        if (!right) {
            wrong++;
            System.out.println("SourceTest: " + what);
        }
    }

    public static void main(String[] args) throws Exception {
        String whole = Files.readString(Path.of("src/main/java/YesterStreet.java"));
        check(whole.chars().allMatch(c -> c == '\n' || c >= 32 && c < 127), "a sign that is not plain");
        String bare = whole.replaceAll("(?s)/\\*.*?\\*/", "").replaceAll("//[^\n]*", "").replaceAll("\"[^\"\n]*\"", "\"\"");
        for (String f : FORBIDDEN) {
            Matcher m = Pattern.compile(f).matcher(bare);
            check(!m.find(), "has " + f);
        }
        Matcher classes = Pattern.compile("\\b(class|record|enum|interface)\\s+\\w+").matcher(bare);
        int many = 0;
        while (classes.find()) many++;
        check(many <= 12, many + " classes");
        methods(bare);
        System.out.println(wrong == 0 ? "SourceTest: the source keeps to the rules" : "SourceTest: " + wrong + " wrong");
        if (wrong != 0) System.exit(1);
    }

    private static void methods(String bare) {
        Matcher m = Pattern.compile("\n {4,8}(?!\\s)(?!(?:for|while|if|switch) \\()(?!private static final class)[\\w\\[\\] ]+\\(([^()]*)\\) \\{\n").matcher(bare);
        int found = 0;
        while (m.find()) {
            found++;
            check(m.group(1).split(",").length <= 7, "too many parameters:" + m.group());
            int depth = 1, at = m.end(), lines = 1;
            for (; depth > 0 && at < bare.length(); at++) {
                char c = bare.charAt(at);
                depth += c == '{' ? 1 : c == '}' ? -1 : 0;
                lines += c == '\n' ? 1 : 0;
            }
            check(lines <= 60, lines + " lines:" + m.group());
            // what a run makes is counted, so rows are made in constructors and used again
            boolean maker = m.group().trim().matches("(public )?[A-Z]\\w*\\(.*");
            check(maker || !bare.substring(m.end(), at).matches("(?s).*\\bnew\\b.*"), "makes an object:" + m.group());
        }
        check(found > 60, "only " + found + " methods were found");
    }
}
