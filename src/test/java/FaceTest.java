import java.io.IOException;
import java.lang.reflect.Field;
import java.lang.reflect.Member;
import java.lang.reflect.Method;
import java.lang.reflect.Modifier;
import java.nio.file.Files;
import java.nio.file.Path;
import java.util.Arrays;
import java.util.Set;
import java.util.TreeSet;
import java.util.regex.Matcher;
import java.util.regex.Pattern;

/** The public face as DOC.md has it, and what LANGUAGE.md (rules 1, 2, 5, 11) says of the members. */
public final class FaceTest {
    private static final Due DUE = new Due("FaceTest");
    private static final String METHODS = "add/1 alter/2 clear/0 cost/2 cut/1 equal/0 fill/3 forget/0"
        + " latest/2 node/3 nodes/1 octet/2 open/0 pack/0 place/0 reset/1 restarted/1 restore/2"
        + " save/1 sign/2 size/1 told/1";

    private FaceTest() {
    }

    public static void main(String[] args) throws ReflectiveOperationException, IOException {
        String document = Files.readString(Path.of("../shared/DOC.md"));
        String program = Files.readString(Path.of("src/main/java/PpmTrees.java"));
        declarations(document, program);
        headings(document, program);
        constants();
        methods();
        nestedClasses();
        staticFields(PpmTrees.class);
        DUE.end();
    }

    /** The lines of the document's face, in their order, are those of the program. */
    private static void declarations(String document, String program) {
        Matcher face = Pattern.compile("(?s)```java\n(.*?)```").matcher(document);
        DUE.holds("the document has a face", face.find());
        int behind = 0;
        int many = 0;
        for (String line : face.group(1).split("\n")) {
            if (line.startsWith("    public ")) {
                many++;
                String due = line.contains("(") ? line.replace(";", " {") : line;
                int found = program.indexOf("\n" + due + "\n", behind);
                DUE.holds("the program has, in this order: " + due.trim(), found >= 0);
                behind = Math.max(behind, found);
            }
        }
        DUE.is("lines of the face", many, 24);
    }

    /** "Ahead of the calls .. the interface says: ---- .." */
    private static void headings(String document, String program) {
        Matcher said = Pattern.compile("Ahead of the calls (.*) the interface says: (---- \\w+)\\.")
            .matcher(document);
        int many = 0;
        while (said.find()) {
            many++;
            String heading = "\n    // " + said.group(2) + "\n";
            int from = program.indexOf(heading);
            DUE.holds("the program says " + said.group(2), from >= 0);
            String[] parts = program.substring(Math.max(0, from + heading.length())).split("\n    // ----");
            DUE.is("calls behind " + said.group(2), publicCalls(parts[0]), said.group(1).replace("`", ""));
        }
        DUE.is("headings", many, 3);
    }

    private static String publicCalls(String part) {
        StringBuilder all = new StringBuilder();
        Matcher call = Pattern.compile("\n    public int (\\w+)\\(").matcher(part);
        while (call.find()) {
            all.append(all.length() == 0 ? "" : ", ").append(call.group(1));
        }
        return all.toString();
    }

    private static void constants() {
        DUE.is("BAD", PpmTrees.BAD, -1);
        DUE.is("FULL", PpmTrees.FULL, -2);
        DUE.is("NO", PpmTrees.NO, -3);
        Set<String> seen = new TreeSet<>();
        for (Field f : PpmTrees.class.getDeclaredFields()) {
            if (!Modifier.isPrivate(f.getModifiers())) {
                seen.add(Modifier.toString(f.getModifiers()) + " " + f.getType() + " " + f.getName());
            }
        }
        DUE.is("constants", seen.toString(), "[public static final int BAD,"
            + " public static final int FULL, public static final int NO]");
    }

    private static void methods() throws ReflectiveOperationException {
        DUE.is("the class", Modifier.toString(PpmTrees.class.getModifiers()), "public final");
        DUE.is("constructors", Arrays.toString(PpmTrees.class.getDeclaredConstructors()),
            "[public PpmTrees(int,int)]");
        Set<String> seen = new TreeSet<>();
        Set<String> names = new TreeSet<>();
        for (Method m : PpmTrees.class.getDeclaredMethods()) {
            if (!Modifier.isPrivate(m.getModifiers())) {
                seen.add(m.getName() + "/" + m.getParameterCount());
                names.add(m.getName());
                DUE.is(m.getName(), Modifier.toString(m.getModifiers()), "public");
                DUE.holds(m.getName() + " answers int", m.getReturnType() == int.class);
                for (Class<?> p : m.getParameterTypes()) {
                    DUE.holds(m.getName() + " takes int", p == int.class);
                }
            }
        }
        DUE.is("methods", String.join(" ", seen), METHODS);
        for (Method m : PpmTrees.class.getDeclaredMethods()) {
            DUE.holds("no private method is called " + m.getName(),
                !Modifier.isPrivate(m.getModifiers()) || !names.contains(m.getName()));
        }
        Method node = PpmTrees.class.getMethod("node", int.class, int.class, int.class);
        DUE.is("node throws", Arrays.toString(node.getExceptionTypes()),
            "[class java.lang.ArrayIndexOutOfBoundsException]");
    }

    private static void nestedClasses() {
        Class<?>[] inside = PpmTrees.class.getDeclaredClasses();
        DUE.holds("at most twelve classes", inside.length + 1 <= 12);
        for (Class<?> c : inside) {
            int m = c.getModifiers();
            DUE.holds(c + " is static, not public, not protected",
                Modifier.isStatic(m) && !Modifier.isPublic(m) && !Modifier.isProtected(m));
            staticFields(c);
        }
    }

    private static void staticFields(Class<?> c) {
        int own = 0;
        for (Member f : c.getDeclaredFields()) {
            if (Modifier.isStatic(f.getModifiers())) {
                DUE.holds(f + " is final", Modifier.isFinal(f.getModifiers()));
            } else {
                own++;
            }
        }
        DUE.holds(c + " has at most twenty fields", own <= 20);
    }
}
