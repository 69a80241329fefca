import java.io.IOException;
import java.lang.reflect.InvocationTargetException;
import java.lang.reflect.Method;
import java.nio.file.Files;
import java.nio.file.Path;
import java.util.Arrays;
import java.util.List;
import java.util.regex.Matcher;
import java.util.regex.Pattern;
import java.util.stream.Collectors;
import java.util.stream.Stream;

/** README.md says how to use the class and how to run its tests: what it says there is so. */
public final class ReadmeTest {
    private static final Due DUE = new Due("ReadmeTest");
    private static final Pattern MADE =
        Pattern.compile("(?m)^PpmTrees x = new PpmTrees\\((-?\\d+), (-?\\d+)\\);");
    private static final Pattern CALL =
        Pattern.compile("(?m)^x\\.(\\w+)\\(([-\\d, ]*)\\); +// (-?\\d+|throws \\w+)");

    private ReadmeTest() {
    }

    public static void main(String[] args) throws IOException, ReflectiveOperationException {
        String readme = Files.readString(Path.of("README.md"));
        exampleAnswersSo(readme);
        callsAreNamed(readme, Files.readString(Path.of("../shared/DOC.md")));
        testsAreNamed(readme);
        DUE.end();
    }

    private static void exampleAnswersSo(String readme) throws ReflectiveOperationException {
        Matcher made = MADE.matcher(readme);
        DUE.holds("an object is made", made.find());
        PpmTrees x = new PpmTrees(Integer.parseInt(made.group(1)), Integer.parseInt(made.group(2)));
        Matcher call = CALL.matcher(readme);
        int many = 0;
        while (call.find()) {
            many++;
            DUE.is(call.group(1) + "(" + call.group(2) + ")",
                answer(x, call.group(1), call.group(2)), call.group(3));
        }
        long lines = readme.lines().filter(line -> line.startsWith("x.")).count();
        DUE.is("calls with an answer", many, lines);
        DUE.holds("there are calls", many > 0);
    }

    private static String answer(PpmTrees x, String name, String numbers)
        throws ReflectiveOperationException {
        Object[] arguments = Stream.of(numbers.split(", ")).filter(n -> !n.isEmpty())
            .map(Integer::valueOf).toArray();
        Class<?>[] types = new Class<?>[arguments.length];
        Arrays.fill(types, int.class);
        Method asked = PpmTrees.class.getMethod(name, types);
        try {
            return asked.invoke(x, arguments).toString();
        } catch (InvocationTargetException e) {
            return "throws " + e.getCause().getClass().getSimpleName();
        }
    }

    /** Each call of the document's face has a row in the table, with the same parameters. */
    private static void callsAreNamed(String readme, String document) {
        Matcher call = Pattern.compile("(?m)^    public int (\\w+\\(.*?\\))").matcher(document);
        int many = 0;
        while (call.find()) {
            many++;
            DUE.holds("a row for " + call.group(1), readme.contains("\n| `" + call.group(1) + "` |"));
        }
        DUE.is("calls of the face", many, 22);
    }

    private static void testsAreNamed(String readme) throws IOException {
        try (Stream<Path> files = Files.list(Path.of("src/test/java"))) {
            List<String> tests = files.map(file -> file.getFileName().toString())
                .filter(name -> name.endsWith("Test.java")).collect(Collectors.toList());
            for (String name : tests) {
                String test = name.substring(0, name.length() - ".java".length());
                DUE.holds(test + " is named", readme.contains("`" + test + "`"));
            }
        }
        DUE.holds("the way to run them is named", readme.contains("\nbash .ci/run\n"));
    }
}
