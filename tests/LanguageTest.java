import java.io.IOException;
import java.nio.file.Files;
import java.nio.file.Path;
import java.util.regex.Matcher;
import java.util.regex.Pattern;

/** What of LANGUAGE.md can be seen from the source's text. */
public final class LanguageTest {
    private static final String[] BANNED = {"\\bthrow\\b", "\\bthrows\\b", "\\btry\\b", "\\bcatch\\b", "\\bsynchronized\\b",
        "\\bassert\\b", "->", "::", "\\bimport\\b", "\\bpackage\\b", "\\bprotected\\b", "\\binstanceof\\b", "\\bequals\\b",
        "\\bhashCode\\b", "\\btoString\\b", "Exact\\b", "\\bwhile\\s*\\(true", "for\\s*\\(\\s*;\\s*;", "\\bSystem\\.(?!arraycopy)",
        "\\bMath\\.(?!(max|min|floorDiv)\\b)", "\\bInteger\\.(?!bitCount\\b)", "\\bfloat\\b", "\\bdouble\\b", "\\bnull\\b",
        "\\bstatic\\s*\\{", "\\bRandom\\b", "\\bThread\\b"};

    public static void main(String[] args) throws IOException {
        Due due = new Due("language");
        String whole = Files.readString(Path.of("src/main/java/InkBars.java"));
        String code = whole.replaceAll("(?s)/\\*.*?\\*/", "").replaceAll("//[^\n]*", "");
        for (String banned : BANNED) {
            Matcher m = Pattern.compile(banned).matcher(code);
            due.is(banned + " stands in it", m.find(), false);
        }
        due.is("its signs are plain", whole.chars().allMatch(c -> c == '\n' || c >= ' ' && c < 127), true);
        Matcher classes = Pattern.compile("\\bclass\\s+\\w+").matcher(code);
        due.is("some twelve classes", classes.results().count() <= 12, true);
        methodsAreShort(due, whole);
        due.end();
    }

    private static void methodsAreShort(Due due, String whole) {
        int began = 0;
        int line = 0;
        Pattern head = Pattern.compile("^( {4}| {8})(public |private |static )*[\\w\\[\\]]+ ?\\w*\\(.*\\) \\{$");
        String end = "";
        for (String text : whole.split("\n")) {
            line++;
            Matcher m = head.matcher(text);
            if (end.isEmpty() && m.matches()) {
                began = line;
                end = m.group(1) + "}";
            } else if (!end.isEmpty() && text.equals(end)) {
                due.is("the method at line " + began + " has few lines", line - began <= 60, true);
                end = "";
            }
        }
    }
}
