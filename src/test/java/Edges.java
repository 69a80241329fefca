import java.io.IOException;
import java.lang.reflect.InvocationTargetException;
import java.lang.reflect.Method;
import java.nio.file.Files;
import java.nio.file.Path;
import java.util.Arrays;
import java.util.Comparator;
import java.util.Map;
import java.util.TreeMap;
import java.util.function.Supplier;
import java.util.function.ToIntFunction;

/** What the tests of boundary cases share: each one is a method of its own, with an Edge. */
abstract class Edges {
    static final int BAD = -1;
    static final int FULL = -2;
    static final int NO = -3;
    static final int MIN = Integer.MIN_VALUE;
    static final int MAX = Integer.MAX_VALUE;
    static final int END = 256;

    private static final Path DOCUMENT = Path.of("../shared/DOC.md");
    private static final String PROMISE = "Promise ";
    private static final Due DUE = new Due("Edges");

    /** Runs every Edge of a class; each promise from the first to the last must have one. */
    static void run(Class<?> cases, int first, int last)
        throws IOException, IllegalAccessException {
        Map<Integer, String> document = sections();
        Map<Integer, Integer> many = new TreeMap<>();
        Method[] edges = Arrays.stream(cases.getDeclaredMethods())
            .filter(m -> m.isAnnotationPresent(Edge.class)).toArray(Method[]::new);
        Arrays.sort(edges, Comparator.comparing(Method::getName));
        for (Method m : edges) {
            Edge edge = m.getAnnotation(Edge.class);
            DUE.within(cases.getName() + ": " + m.getName() + " (" + edge.of() + ": " + edge.says() + ")");
            DUE.holds("the document says so there",
                document.getOrDefault(edge.of(), "").contains(edge.says()));
            runOne(m);
            many.merge(edge.of(), 1, Integer::sum);
        }
        DUE.within(cases.getName());
        for (int promise = first; promise <= last; promise++) {
            DUE.holds("promise " + promise + " has an edge", many.containsKey(promise));
        }
        System.out.println(cases.getName() + ": " + edges.length + " edges, by promise " + many);
        DUE.end();
    }

    private static void runOne(Method m) throws IllegalAccessException {
        int before = DUE.asked();
        try {
            m.invoke(null);
        } catch (InvocationTargetException e) {
            DUE.holds("it threw " + e.getCause(), false);
        }
        DUE.holds("it asked something", DUE.asked() > before);
    }

    /** The text of each promise by its number, and what stands ahead of them by TERMS. */
    private static Map<Integer, String> sections() throws IOException {
        Map<Integer, String> all = new TreeMap<>();
        for (String section : Files.readString(DOCUMENT).split("(?m)^## ")) {
            if (section.startsWith(PROMISE)) {
                int number = Integer.parseInt(section.substring(PROMISE.length(), section.indexOf(':')));
                all.put(number, section);
            } else if (section.startsWith("What it is") || section.startsWith("Terms")) {
                all.merge(Edge.TERMS, section, String::concat);
            }
        }
        return all;
    }

    static void is(String call, long got, long want) {
        DUE.is(call, got, want);
    }

    static void is(String call, String got, String want) {
        DUE.is(call, got, want);
    }

    static void holds(String what, boolean so) {
        DUE.holds(what, so);
    }

    /** A call on a rich object is refused by this answer, and leaves all as it was. */
    static void refused(String call, ToIntFunction<PpmTrees> asked, int answer) {
        refused(Edges::rich, call, asked, answer);
    }

    static void refused(Supplier<PpmTrees> made, String call, ToIntFunction<PpmTrees> asked, int answer) {
        PpmTrees x = made.get();
        DUE.is(call, asked.applyAsInt(x), answer);
        DUE.is("all behind " + call, usedUp(x), usedUp(made.get()));
    }

    /** Calls that end where they began leave all as it was. */
    static void changesNothing(String calls, ToIntFunction<PpmTrees> asked) {
        PpmTrees x = rich();
        asked.applyAsInt(x);
        DUE.is("all behind " + calls, usedUp(x), usedUp(rich()));
    }

    /** An object of which nothing is as at first: whatever a refused call changed is seen. */
    static PpmTrees rich() {
        PpmTrees x = Asked.packed(2, 12, 1, 2, 1, 3, 4, 1, 2);
        x.open();
        x.save(1);
        x.clear();
        Asked.addAll(x, 1, 2, 3, 0, 255, 3, 3, 0);
        x.pack();
        x.save(0);
        int last = x.size(1) - 1;
        x.alter(last, x.octet(1, last) ^ 1);
        x.open();
        return x;
    }

    static PpmTrees richAndFull() {
        PpmTrees x = rich();
        x.fill(300 - x.size(0), 5, 0);
        return x;
    }

    static PpmTrees fresh() {
        return new PpmTrees(2, 50);
    }

    /** An object that has what it can have without a pack(). */
    static PpmTrees neverPacked() {
        PpmTrees x = fresh();
        Asked.addAll(x, 5, 6);
        x.open();
        x.save(0);
        return x;
    }

    /** OUT becomes a row made by hand. */
    static void makeOut(PpmTrees x, int... row) {
        while (x.size(1) < row.length && x.add(x.size(0) * 37 % 256) > 0) {
            x.pack();
        }
        x.cut(row.length);
        for (int i = 0; i < row.length; i++) {
            x.alter(i, row[i]);
        }
    }

    /** A new object with an OUT made by hand. */
    static PpmTrees withOut(int order, int room, int... row) {
        PpmTrees x = new PpmTrees(order, room);
        makeOut(x, row);
        return x;
    }

    /** A reader of order 0 that knows the bytes from 0 on, and an OUT that is made by hand. */
    static PpmTrees readerOf(int known, int... out) {
        PpmTrees x = new PpmTrees(0, 1500);
        for (int b = 0; b < known; b++) {
            x.add(b);
        }
        x.pack();
        x.open();
        x.pack();
        makeOut(x, out);
        return x;
    }

    /** All that can be asked of an object, what it keeps and what it does next, too. */
    private static String usedUp(PpmTrees x) {
        StringBuilder s = new StringBuilder(Asked.all(x));
        for (int sign : new int[] {0, 1, 2, 3, 200, 255, END}) {
            s.append(' ').append(x.cost(0, sign)).append('/').append(x.cost(1, sign));
        }
        s.append("|opened ").append(x.open()).append(' ').append(x.place());
        s.append("|packed ").append(x.pack()).append(' ').append(Asked.row(x, 1));
        for (int kept = 0; kept < 6 && x.restore(0, kept) >= 0; kept++) {
            s.append("|kept ").append(Asked.model(x, 0));
        }
        int saved = 0;
        while (saved < 6 && x.save(0) >= 0) {
            saved++;
        }
        return s.append("|saved ").append(saved).append("|forgot ").append(x.forget()).toString();
    }
}
