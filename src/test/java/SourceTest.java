import java.nio.file.Files;
import java.nio.file.Path;
import java.util.regex.Matcher;
import java.util.regex.Pattern;

/** Those rules of ../shared/LANGUAGE.md that can be seen in the text of the program. */
final class SourceTest {
    private static final String[] BARRED = {
        "->", "::", "\\w+Exact\\b", "\\b(package|import|finally|try|catch|synchronized|assert)\\b",
        "\\b(Object|System|Thread|Random|Iterator|Iterable|String)\\b", "\\bequals\\b",
        "\\bhashCode\\b", "\\btoString\\b", "\\b(protected|instanceof|volatile|native)\\b",
        "\\bstatic\\s*\\{", "\\b(while|do)\\b"};

    private SourceTest() {
    }

    public static void main(String[] args) throws Exception {
        Check check = new Check("SourceTest");
        String text = Files.readString(Path.of("src", "main", "java", "CarriedNumbers.java"));
        check.same("signs 1 to 127", 0, text.chars().filter(c -> c > 127).count());
        String bare = text.replaceAll("(?s)/\\*.*?\\*/", "").replaceAll("//[^\n]*", "")
            .replaceAll("\"[^\"\n]*\"", "\"\"");
        for (String barred : BARRED) {
            Matcher m = Pattern.compile(barred).matcher(bare);
            check.same("no " + barred, "", m.find() ? m.group() : "");
        }
        int classes = bare.split("\\bclass\\b").length - 1;
        check.same("at most twelve classes", 1, classes <= 12 ? 1 : 0);
        methodsAreShort(check, bare);
        namesAreTheirOwn(check, bare);
        check.end();
    }

    private static void methodsAreShort(Check check, String bare) {
        int start = 0;
        int line = 0;
        for (String s : bare.split("\n")) {
            line++;
            if (s.matches(" {4,8}[^ ].*\\(.*|    [^ ].*\\(.*")) {
                start = line;
            }
            if (s.matches(" {4,8}\\}")) {
                check.same("short up to line " + line, 1, line - start <= 60 ? 1 : 0);
            }
        }
    }

    private static void namesAreTheirOwn(Check check, String bare) {
        String face = "(?m)^    public (?:int|boolean) (\\w+)\\(";
        Matcher m = Pattern.compile(face).matcher(bare);
        while (m.find()) {
            String hidden = "(?m)^ +private [\\w ]*\\b" + m.group(1) + "\\(";
            boolean twice = Pattern.compile(hidden).matcher(bare).find();
            check.same("one method named " + m.group(1), 0, twice ? 1 : 0);
        }
    }
}
