import java.util.ArrayList;
import java.util.HashSet;
import java.util.List;
import java.util.Set;
import java.util.TreeMap;

/**
 * The document once more, told as plainly as its words go and with none of the class's code:
 * every CONTEXT is walked from the ROOT, every model is copied whole, and a SIGN is read by
 * looking which span holds the number. The random runs compare the class with it.
 */
final class PlainTrees {
    static final int BAD = -1;
    static final int FULL = -2;
    static final int NO = -3;
    static final int END = 256;
    static final int ESCAPE = 257;

    private static final class Node {
        Node parent;
        int b = -1;
        int count;
        int number;
        final TreeMap<Integer, Node> children = new TreeMap<>();

        int steps() {
            return parent == null ? 0 : parent.steps() + 1;
        }
    }

    private static final class Model {
        List<Node> nodes = new ArrayList<>();
        List<Integer> latest = new ArrayList<>();

        Model() {
            startAnew();
        }

        void startAnew() {
            nodes.clear();
            latest.clear();
            nodes.add(new Node());
        }

        Model copy() {
            Model m = new Model();
            for (Node from : nodes) {
                if (from.parent != null) {
                    m.grow(m.nodes.get(from.parent.number), from.b).count = from.count;
                }
            }
            m.latest.addAll(latest);
            return m;
        }

        Node grow(Node parent, int b) {
            Node c = new Node();
            c.parent = parent;
            c.b = b;
            c.count = 1;
            c.number = nodes.size();
            nodes.add(c);
            parent.children.put(b, c);
            return c;
        }

        Node context(int k) {
            Node at = nodes.get(0);
            for (int b : latest.subList(latest.size() - k, latest.size())) {
                at = at.children.get(b);
            }
            return at;
        }

        String text() {
            StringBuilder s = new StringBuilder();
            for (Node n : nodes) {
                s.append(n.parent == null ? -1 : n.parent.number).append('/').append(n.b);
                s.append('/').append(n.count).append(' ');
            }
            return s.append(latest).toString();
        }
    }

    /** One span: of which SIGN (or ESCAPE), from, how long, of how many. */
    private record Span(int sign, int from, int length, int total) {
    }

    private static final class Telling {
        final Model model;
        final Set<Integer> excluded = new HashSet<>();
        int context;
        boolean flat;
        int escapes;

        Telling(Model model) {
            this.model = model;
            context = model.latest.size() + 1;
        }

        /** The spans of the next CONTEXT that is not passed, or FLAT. */
        List<Span> next() {
            for (context--; context >= 0; context--) {
                List<Node> open = new ArrayList<>();
                int s = 0;
                for (Node c : model.context(context).children.values()) {
                    if (!excluded.contains(c.b)) {
                        open.add(c);
                        s += c.count;
                    }
                }
                if (!open.isEmpty()) {
                    return spansOf(open, s);
                }
            }
            flat = true;
            List<Span> spans = new ArrayList<>();
            int m = 257 - excluded.size();
            for (int sign = 0; sign <= END; sign++) {
                if (!excluded.contains(sign)) {
                    spans.add(new Span(sign, spans.size(), 1, m));
                }
            }
            return spans;
        }

        private static List<Span> spansOf(List<Node> open, int s) {
            List<Span> spans = new ArrayList<>();
            int n = open.size();
            int from = 0;
            for (Node c : open) {
                spans.add(new Span(c.b, from, c.count, s + n));
                from += c.count;
            }
            spans.add(new Span(ESCAPE, s, n, s + n));
            return spans;
        }

        void exclude(List<Span> spans) {
            escapes++;
            for (Span span : spans) {
                if (span.sign != ESCAPE) {
                    excluded.add(span.sign);
                }
            }
        }
    }

    private static final class Bits {
        long low = 0;
        long high = 65535;
        int held = 0;
        final StringBuilder put = new StringBuilder();

        void narrow(Span s) {
            long r = high - low + 1;
            long before = low;
            high = before + r * (s.from + s.length) / s.total - 1;
            low = before + r * s.from / s.total;
        }

        /** What goes from both before they are doubled, or -1 when that is all. */
        int goes() {
            if (high < 32768) {
                return 0;
            }
            if (low >= 32768) {
                return 32768;
            }
            return low >= 16384 && high < 49152 ? 16384 : -1;
        }

        void doubled(int gone) {
            low = 2 * (low - gone);
            high = 2 * (high - gone) + 1;
        }

        void write(Span s) {
            narrow(s);
            for (int gone = goes(); gone >= 0; gone = goes()) {
                if (gone == 16384) {
                    held++;
                } else {
                    bit(gone == 0 ? '0' : '1');
                }
                doubled(gone);
            }
        }

        void bit(char c) {
            put.append(c);
            put.append(String.valueOf(c == '0' ? '1' : '0').repeat(held));
            held = 0;
        }

        void end() {
            held++;
            bit(low < 16384 ? '0' : '1');
        }

        List<Integer> bytes() {
            StringBuilder filled = new StringBuilder(put);
            while (filled.length() % 8 != 0) {
                filled.append('0');
            }
            List<Integer> row = new ArrayList<>();
            for (int i = 0; i < filled.length(); i += 8) {
                row.add(Integer.parseInt(filled.substring(i, i + 8), 2));
            }
            return row;
        }
    }

    private record Packed(List<Integer> row, int bits, int escapes, int restarts,
                          List<int[]> signs) {
    }

    private final int order;
    private final int room;
    private final List<Integer> text = new ArrayList<>();
    private final List<Integer> out = new ArrayList<>();
    private List<Integer> received = new ArrayList<>();
    private final Model[] models = {new Model(), new Model()};
    private final int[] restarts = {0, 0};
    private final List<Model> kept = new ArrayList<>();
    private Packed packed;
    private int place = NO;

    /** How often each FAULT came in all runs (0: none), and how often COUNTS were halved. */
    static final int[] FAULTS = new int[4];
    static int halved = 0;

    PlainTrees(int order, int room) {
        this.order = order < 0 ? 0 : order > 4 ? 4 : order;
        this.room = room < 8 ? 8 : room > 1500 ? 1500 : room;
    }

    int clear() {
        int had = text.size();
        text.clear();
        return had;
    }

    int add(int b) {
        if (b < 0 || b > 255) {
            return BAD;
        }
        if (text.size() == 300) {
            return FULL;
        }
        text.add(b);
        return text.size();
    }

    int fill(int n, int seed, int how) {
        if (n < 1 || n > 300 || how < 0 || how > 3) {
            return BAD;
        }
        if (text.size() + n > 300) {
            return FULL;
        }
        int x = seed;
        int last = 0;
        for (int i = 0; i < n; i++) {
            x = x * 1103515245 + 12345;
            int z = x >>> 16;
            int b;
            if (how == 0) {
                b = z % 256;
            } else if (how == 1) {
                b = z % 4;
            } else if (how == 2) {
                int d = 1 + (seed >>> 28);
                b = text.size() < d ? 0
                    : (text.get(text.size() - d) + (z % 16 == 0 ? 1 : 0)) % 256;
            } else {
                b = (last + z % 4) % 256;
            }
            last = b;
            text.add(b);
        }
        return text.size();
    }

    private List<Integer> row(int which) {
        return which == 0 ? text : which == 1 ? out : which == 2 ? received : null;
    }

    int size(int which) {
        return row(which) == null ? BAD : row(which).size();
    }

    int octet(int which, int i) {
        List<Integer> row = row(which);
        return row == null || i < 0 || i >= row.size() ? BAD : row.get(i);
    }

    int alter(int i, int b) {
        return i < 0 || i >= out.size() || b < 0 || b > 255 ? BAD : out.set(i, b);
    }

    int cut(int n) {
        if (n < 0 || n > out.size()) {
            return BAD;
        }
        int gone = out.size() - n;
        out.subList(n, out.size()).clear();
        return gone;
    }

    private boolean learn(Model m, int b, int lowest) {
        List<Node> contexts = new ArrayList<>();
        for (int k = lowest; k <= m.latest.size(); k++) {
            contexts.add(m.context(k));
        }
        for (Node context : contexts) {
            Node c = context.children.get(b);
            if (c != null) {
                c.count++;
            } else if (m.nodes.size() == room) {
                m.startAnew();
                return true;
            } else {
                m.grow(context, b);
            }
            int sum = 0;
            for (Node child : context.children.values()) {
                sum += child.count;
            }
            if (sum > 200) {
                halved++;
                for (Node child : context.children.values()) {
                    child.count = (child.count + 1) / 2;
                }
            }
        }
        m.latest.add(b);
        if (m.latest.size() > order) {
            m.latest.remove(0);
        }
        return false;
    }

    private Packed write(Model m, List<Integer> bytes) {
        Bits bits = new Bits();
        List<int[]> signs = new ArrayList<>();
        int escapes = 0;
        int restarts = 0;
        for (int i = 0; i <= bytes.size(); i++) {
            int wanted = i == bytes.size() ? END : bytes.get(i);
            Telling telling = new Telling(m);
            for (Span s : path(telling, wanted)) {
                bits.write(s);
            }
            signs.add(new int[] {telling.excluded.size(), telling.flat ? NO : telling.context});
            escapes += telling.escapes;
            if (wanted != END && learn(m, wanted, telling.flat ? 0 : telling.context)) {
                restarts++;
            }
        }
        bits.end();
        return new Packed(bits.bytes(), bits.put.length(), escapes, restarts, signs);
    }

    private static List<Span> path(Telling telling, int wanted) {
        List<Span> path = new ArrayList<>();
        while (true) {
            List<Span> spans = telling.next();
            for (Span s : spans) {
                if (s.sign == wanted) {
                    path.add(s);
                    return path;
                }
            }
            path.add(spans.get(spans.size() - 1));
            telling.exclude(spans);
        }
    }

    int pack() {
        packed = write(models[0], text);
        restarts[0] += packed.restarts;
        out.clear();
        out.addAll(packed.row);
        return out.size();
    }

    int open() {
        Model m = models[1].copy();
        List<Integer> read = new ArrayList<>();
        int[] restarted = {0};
        int fault = read(m, read, restarted);
        place = NO;
        if (fault == 0) {
            List<Integer> due = write(models[1].copy(), read).row;
            if (!due.equals(out)) {
                fault = 3;
                place = 0;
                while (place < due.size() && place < out.size()
                    && due.get(place).equals(out.get(place))) {
                    place++;
                }
            }
        }
        FAULTS[fault]++;
        if (fault != 0) {
            return -10 - fault;
        }
        models[1] = m;
        received = read;
        restarts[1] += restarted[0];
        return received.size();
    }

    private int bitOfOut(int i) {
        return i / 8 < out.size() ? out.get(i / 8) >> (7 - i % 8) & 1 : 0;
    }

    private int read(Model m, List<Integer> read, int[] restarted) {
        Bits bits = new Bits();
        long number = 0;
        int taken = 0;
        while (taken < 16) {
            number = 2 * number + bitOfOut(taken++);
        }
        while (true) {
            if (taken - 8 * out.size() > 16) {
                return 1;
            }
            Telling telling = new Telling(m);
            int sign = ESCAPE;
            while (sign == ESCAPE) {
                List<Span> spans = telling.next();
                Span s = holding(spans, bits, number);
                bits.narrow(s);
                for (int gone = bits.goes(); gone >= 0; gone = bits.goes()) {
                    bits.doubled(gone);
                    number = 2 * (number - gone) + bitOfOut(taken++);
                }
                sign = s.sign;
                if (sign == ESCAPE) {
                    telling.exclude(spans);
                }
            }
            if (sign == END) {
                return 0;
            }
            if (read.size() == 300) {
                return 2;
            }
            read.add(sign);
            if (learn(m, sign, telling.flat ? 0 : telling.context)) {
                restarted[0]++;
            }
        }
    }

    private static Span holding(List<Span> spans, Bits bits, long number) {
        for (Span s : spans) {
            Bits tried = new Bits();
            tried.low = bits.low;
            tried.high = bits.high;
            tried.narrow(s);
            if (tried.low <= number && number <= tried.high) {
                return s;
            }
        }
        throw new IllegalStateException("the number lies in no span");
    }

    int place() {
        return place;
    }

    int told(int what) {
        if (what < 0 || what > 2) {
            return BAD;
        }
        if (packed == null) {
            return NO;
        }
        return what == 0 ? packed.bits : what == 1 ? packed.escapes : packed.restarts;
    }

    int sign(int i, int what) {
        if (packed == null || i < 0 || i >= packed.signs.size() || what < 0 || what > 1) {
            return BAD;
        }
        return packed.signs.get(i)[what];
    }

    private static boolean isEnd(int end) {
        return end == 0 || end == 1;
    }

    int nodes(int end) {
        return isEnd(end) ? models[end].nodes.size() : BAD;
    }

    int node(int end, int i, int what) {
        if (!isEnd(end) || what < 0 || what > 3) {
            return BAD;
        }
        if (i < 0 || i >= models[end].nodes.size()) {
            return Asked.THROWS;
        }
        Node n = models[end].nodes.get(i);
        return what == 0 ? (n.parent == null ? -1 : n.parent.number)
            : what == 1 ? n.b : what == 2 ? n.count : n.steps();
    }

    int latest(int end, int i) {
        return !isEnd(end) || i < 0 || i >= models[end].latest.size()
            ? BAD : models[end].latest.get(i);
    }

    int restarted(int end) {
        return isEnd(end) ? restarts[end] : BAD;
    }

    int reset(int end) {
        if (!isEnd(end)) {
            return BAD;
        }
        int had = models[end].nodes.size();
        models[end] = new Model();
        return had;
    }

    int equal() {
        return models[0].text().equals(models[1].text()) ? 1 : 0;
    }

    int save(int end) {
        if (!isEnd(end)) {
            return BAD;
        }
        if (kept.size() == 4) {
            return FULL;
        }
        kept.add(models[end].copy());
        return kept.size() - 1;
    }

    int restore(int end, int number) {
        if (!isEnd(end) || number < 0 || number >= kept.size()) {
            return BAD;
        }
        models[end] = kept.get(number).copy();
        return models[end].nodes.size();
    }

    int forget() {
        int had = kept.size();
        kept.clear();
        return had;
    }

    int cost(int end, int sign) {
        if (!isEnd(end) || sign < 0 || sign > END) {
            return BAD;
        }
        int sum = 0;
        for (Span s : path(new Telling(models[end]), sign)) {
            int k = 0;
            while ((long) s.length << k < s.total) {
                k++;
            }
            sum += k;
        }
        return sum;
    }

    /** A tree, told as Asked.tree tells it. */
    String tree(int end) {
        StringBuilder s = new StringBuilder();
        for (int i = 0; i < nodes(end); i++) {
            s.append(i == 0 ? "" : " ");
            for (int what = 0; what <= 3; what++) {
                s.append(what == 0 ? "" : "/").append(node(end, i, what));
            }
        }
        return s.toString();
    }
}
