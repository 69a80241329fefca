import java.io.IOException;
import java.nio.file.Files;
import java.nio.file.Path;
import java.util.ArrayList;
import java.util.List;
import java.util.regex.Matcher;
import java.util.regex.Pattern;

/** What of LANGUAGE.md can be seen in the text of the program. */
public final class LanguageTest {
    private static final Due DUE = new Due("LanguageTest");
    private static final String[] NEVER = {
        "->", "::", "\\btry\\b", "\\bcatch\\b", "\\bfinally\\b", "\\bsynchronized\\b", "\\bassert\\b",
        "\\binstanceof\\b", "\\bprotected\\b", "\\bpackage\\b", "\\w+Exact\\b", "\\bRandom\\b",
        "\\bThread\\b", "\\bSystem\\.(?!arraycopy\\b)", "\\bdouble\\b", "\\bfloat\\b", "@\\w+",
        "\\bnull\\b", "static\\s*\\{", "\\bequals\\b", "\\bhashCode\\b", "\\btoString\\b"
    };

    private LanguageTest() {
    }

    public static void main(String[] args) throws IOException {
        String program = Files.readString(Path.of("src/main/java/PpmTrees.java"));
        String code = program.replaceAll("(?s)/\\*.*?\\*/", "").replaceAll("//[^\n]*", "");
        for (String never : NEVER) {
            Matcher m = Pattern.compile(never).matcher(code);
            DUE.holds("no " + never, !m.find());
        }
        DUE.is("imports", found(code, "import [^;]*;"), "[import java.util.ArrayList;]");
        // The document names this exception for node(), and it is thrown by a statement.
        DUE.is("throws", found(code, "throw new \\w+"), "[throw new ArrayIndexOutOfBoundsException]");
        DUE.holds("characters 0 to 255", program.chars().allMatch(c -> c < 256));
        methodsAreShort(code);
        DUE.end();
    }

    private static String found(String code, String pattern) {
        List<String> all = new ArrayList<>();
        Matcher m = Pattern.compile(pattern).matcher(code);
        while (m.find()) {
            all.add(m.group());
        }
        return all.toString();
    }

    private static void methodsAreShort(String code) {
        String[] lines = code.split("\n");
        int methods = 0;
        for (int i = 0; i < lines.length; i++) {
            Matcher m = Pattern.compile("^( +)[^=;]*\\(([^;=]*)\\)[^;=]* \\{$").matcher(lines[i]);
            if (!m.find() || m.group(1).length() > 8 || lines[i].contains("class ")) {
                continue;
            }
            int end = i;
            while (!lines[end].equals(m.group(1) + "}")) {
                end++;
            }
            methods++;
            DUE.holds("short: " + lines[i].trim(), end - i <= 60);
            DUE.holds("few parameters: " + lines[i].trim(), m.group(2).split(",").length <= 7);
        }
        DUE.holds("methods were seen", methods > 60);
    }
}
