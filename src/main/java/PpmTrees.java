import java.util.ArrayList;

/**
 * Two ends that say texts to one another in few bits: each foretells the next byte by those
 * before it, in a tree that grows alike at both ends.
 *
 * <p>All rows are made once and used again, since every call of a run lives in one room; what
 * could go wrong in {@link #open()} is tried on spare rows, which change places with the real
 * ones only when no fault was seen.
 */
public final class PpmTrees {
    public static final int BAD = -1, FULL = -2, NO = -3;

    private static final int BYTES = 256;
    private static final int END = 256;
    private static final int SIGNS = 257;
    private static final int ESCAPE = 257;

    private static final int MOST_ORDER = 4;
    private static final int LEAST_ROOM = 8;
    private static final int MOST_ROOM = 1500;
    private static final int MOST_BYTES = 300;
    private static final int MOST_KEPT = 4;
    private static final int MOST_TOGETHER = 200;

    private static final int ROOT = 0;
    private static final int NONE = -1;
    private static final int FLAT = -1;

    private static final int QUARTER = 16384;
    private static final int HALF = 32768;
    private static final int WHOLE = 65536;
    private static final int NUMBER_BITS = 16;
    private static final int SETTLED = -1;

    // A settled range is wider than 16384 and no total is above 513 (256 children, whose COUNTS
    // are at most 257 together), so a span leaves at least 31, which doubles at most 11 times.
    private static final int MOST_SHIFTS = 11;
    private static final int MOST_SPANS = MOST_ORDER + 2;
    private static final int MOST_BITS = (MOST_BYTES + 1) * MOST_SPANS * MOST_SHIFTS + 2;
    private static final int MOST_OUT = (MOST_BITS + 7) / 8;

    private static final int FAULT_NONE = 0;
    private static final int FAULT_BEHIND = 1;
    private static final int FAULT_LONG = 2;
    private static final int FAULT_OTHER = 3;

    private final int order;
    private final int room;
    private final Octets text = new Octets(MOST_BYTES);
    private final Octets out = new Octets(MOST_OUT);
    private Octets received = new Octets(MOST_BYTES);
    private Octets trialReceived = new Octets(MOST_BYTES);
    private final Model writerModel;
    private Model readerModel;
    private Model trialModel;
    private int writerRestarts;
    private int readerRestarts;
    private int trialRestarts;
    private final ArrayList<Model> shelf = new ArrayList<Model>();
    private int keptMany;
    private final Teller teller = new Teller();
    private final Writer writer;
    private final Reader reader;
    private final Meter meter = new Meter();
    private final PackReport report = new PackReport();
    private int faultPlace = NO;

    public PpmTrees(int order, int room) {
        this.order = Math.max(0, Math.min(MOST_ORDER, order));
        this.room = Math.max(LEAST_ROOM, Math.min(MOST_ROOM, room));
        writerModel = new Model(this.order, this.room);
        readerModel = new Model(this.order, this.room);
        trialModel = new Model(this.order, this.room);
        writer = new Writer(out);
        reader = new Reader(out, new Octets(MOST_OUT));
    }

    // ---- bytes

    public int clear() {
        int had = text.many();
        text.keepFirst(0);
        return had;
    }

    public int add(int b) {
        if (!isByte(b)) {
            return BAD;
        }
        if (text.many() >= MOST_BYTES) {
            return FULL;
        }
        text.append(b);
        return text.many();
    }

    public int fill(int n, int seed, int how) {
        if (n < 1 || n > MOST_BYTES || how < 0 || how > 3) {
            return BAD;
        }
        if (text.many() + n > MOST_BYTES) {
            return FULL;
        }
        int x = seed;
        int before = 0;
        for (int i = 0; i < n; i++) {
            x = x * 1103515245 + 12345;
            before = madeByte(x >>> 16, seed, how, before);
            text.append(before);
        }
        return text.many();
    }

    private int madeByte(int z, int seed, int how, int before) {
        switch (how) {
            case 0:
                return z % BYTES;
            case 1:
                return z % 4;
            case 2:
                return echoedByte(z, text.many() - 1 - (seed >>> 28));
            default:
                return (before + z % 4) % BYTES;
        }
    }

    private int echoedByte(int z, int source) {
        if (!text.has(source)) {
            return 0;
        }
        int more = z % 16 == 0 ? 1 : 0;
        return (text.byteAt(source) + more) % BYTES;
    }

    public int size(int which) {
        return isRow(which) ? row(which).many() : BAD;
    }

    public int octet(int which, int i) {
        if (!isRow(which) || !row(which).has(i)) {
            return BAD;
        }
        return row(which).byteAt(i);
    }

    public int alter(int i, int b) {
        if (!out.has(i) || !isByte(b)) {
            return BAD;
        }
        int was = out.byteAt(i);
        out.change(i, b);
        return was;
    }

    public int cut(int n) {
        int had = out.many();
        if (n < 0 || n > had) {
            return BAD;
        }
        out.keepFirst(n);
        return had - n;
    }

    // ---- saying

    public int pack() {
        report.begin();
        writer.begin();
        for (int i = 0; i < text.many(); i++) {
            int b = text.byteAt(i);
            write(b);
            if (writerModel.learn(b, teller.lowestToLearn())) {
                report.noteRestart();
            }
        }
        write(END);
        writer.finish();
        report.noteBits(writer.bits());
        writerRestarts += report.restarts();
        return out.many();
    }

    private void write(int wanted) {
        writer.want(wanted);
        teller.tell(writerModel, writer);
        report.noteSign(teller);
    }

    public int open() {
        trialModel.become(readerModel);
        trialReceived.keepFirst(0);
        trialRestarts = 0;
        reader.begin();
        int fault = read();
        faultPlace = fault == FAULT_OTHER ? reader.firstDifference() : NO;
        if (fault != FAULT_NONE) {
            return -10 - fault;
        }
        takeTrial();
        return received.many();
    }

    private int read() {
        for (int turn = 0; turn <= MOST_BYTES; turn++) {
            if (reader.takenBehind() > NUMBER_BITS) {
                return FAULT_BEHIND;
            }
            int told = teller.tell(trialModel, reader);
            if (told == END) {
                reader.finish();
                return reader.firstDifference() == NONE ? FAULT_NONE : FAULT_OTHER;
            }
            if (trialReceived.many() >= MOST_BYTES) {
                return FAULT_LONG;
            }
            trialReceived.append(told);
            if (trialModel.learn(told, teller.lowestToLearn())) {
                trialRestarts++;
            }
        }
        return FAULT_LONG;
    }

    private void takeTrial() {
        Model oldModel = readerModel;
        readerModel = trialModel;
        trialModel = oldModel;
        Octets oldReceived = received;
        received = trialReceived;
        trialReceived = oldReceived;
        readerRestarts += trialRestarts;
    }

    public int place() {
        return faultPlace;
    }

    public int told(int what) {
        if (what < 0 || what > 2) {
            return BAD;
        }
        if (report.signs() == 0) {
            return NO;
        }
        switch (what) {
            case 0:
                return report.bits();
            case 1:
                return report.escapes();
            default:
                return report.restarts();
        }
    }

    public int sign(int i, int what) {
        if (i < 0 || i >= report.signs() || what < 0 || what > 1) {
            return BAD;
        }
        if (what == 0) {
            return report.excludedOf(i);
        }
        int context = report.contextOf(i);
        return context == FLAT ? NO : context;
    }

    // ---- models

    public int nodes(int end) {
        return isEnd(end) ? model(end).nodeMany() : BAD;
    }

    public int node(int end, int i, int what) throws ArrayIndexOutOfBoundsException {
        if (!isEnd(end) || what < 0 || what > 3) {
            return BAD;
        }
        Model asked = model(end);
        if (i < 0 || i >= asked.nodeMany()) {
            throw new ArrayIndexOutOfBoundsException("no such node");
        }
        switch (what) {
            case 0:
                return asked.parentOf(i);
            case 1:
                return asked.byteOf(i);
            case 2:
                return asked.countOf(i);
            default:
                return asked.stepsTo(i);
        }
    }

    public int latest(int end, int i) {
        if (!isEnd(end) || i < 0 || i >= model(end).latestMany()) {
            return BAD;
        }
        return model(end).latestByte(i);
    }

    public int restarted(int end) {
        if (!isEnd(end)) {
            return BAD;
        }
        return end == 0 ? writerRestarts : readerRestarts;
    }

    public int reset(int end) {
        if (!isEnd(end)) {
            return BAD;
        }
        int had = model(end).nodeMany();
        model(end).begin();
        return had;
    }

    public int equal() {
        return writerModel.isLike(readerModel) ? 1 : 0;
    }

    public int save(int end) {
        if (!isEnd(end)) {
            return BAD;
        }
        if (keptMany >= MOST_KEPT) {
            return FULL;
        }
        // A forgotten model's rows are used again, so that saving and forgetting need no more room.
        if (keptMany >= shelf.size()) {
            shelf.add(new Model(order, room));
        }
        if (keptMany < shelf.size()) {
            shelf.get(keptMany).become(model(end));
        }
        keptMany++;
        return keptMany - 1;
    }

    public int restore(int end, int kept) {
        if (!isEnd(end) || kept < 0 || kept >= keptMany || kept >= shelf.size()) {
            return BAD;
        }
        model(end).become(shelf.get(kept));
        return model(end).nodeMany();
    }

    public int forget() {
        int had = keptMany;
        keptMany = 0;
        return had;
    }

    public int cost(int end, int sign) {
        if (!isEnd(end) || sign < 0 || sign > END) {
            return BAD;
        }
        meter.begin(sign);
        teller.tell(model(end), meter);
        return meter.sum();
    }

    // ---- what the calls share

    private Model model(int end) {
        return end == 0 ? writerModel : readerModel;
    }

    private Octets row(int which) {
        if (which == 0) {
            return text;
        }
        return which == 1 ? out : received;
    }

    private static boolean isEnd(int end) {
        return end == 0 || end == 1;
    }

    private static boolean isRow(int which) {
        return which >= 0 && which <= 2;
    }

    private static boolean isByte(int b) {
        return b >= 0 && b < BYTES;
    }

    // Every index of a row is looked at here, so that the machine has nothing to throw.
    private static int at(int[] row, int i) {
        return i >= 0 && i < row.length ? row[i] : NONE;
    }

    private static void put(int[] row, int i, int value) {
        if (i >= 0 && i < row.length) {
            row[i] = value;
        }
    }

    private static void copyFirst(int[] from, int[] to, int many) {
        if (many >= 0 && many <= from.length && many <= to.length) {
            System.arraycopy(from, 0, to, 0, many);
        }
    }

    /** A row of bytes that can be read and grown bit by bit, from the highest bit of each on. */
    private static final class Octets {
        private final int[] row;
        private int many;

        Octets(int most) {
            row = new int[Math.max(0, most)];
        }

        int many() {
            return many;
        }

        boolean has(int i) {
            return i >= 0 && i < many;
        }

        int byteAt(int i) {
            return at(row, i);
        }

        void change(int i, int b) {
            put(row, i, b);
        }

        void append(int b) {
            if (many < row.length) {
                put(row, many, b);
                many++;
            }
        }

        void keepFirst(int n) {
            many = n;
        }

        // The bits look at their index here: they stand at the end of the deepest calls.
        int bitAt(int position) {
            int i = position >> 3;
            if (i < 0 || i >= many || i >= row.length) {
                return 0;
            }
            return row[i] >> (7 - (position & 7)) & 1;
        }

        void setBit(int position, int bit) {
            int i = position >> 3;
            if (i < 0 || i > many || i >= row.length) {
                return;
            }
            if (i == many) {
                row[i] = 0;
                many++;
            }
            row[i] |= bit << (7 - (position & 7));
        }

        /** The first place where both are not the same, the end of one too; NONE: no such place. */
        int firstDifference(Octets other) {
            int shorter = Math.min(many, other.many);
            for (int i = 0; i < shorter; i++) {
                if (at(row, i) != at(other.row, i)) {
                    return i;
                }
            }
            return many == other.many ? NONE : shorter;
        }
    }

    /** A TREE, and the LATEST bytes; the children of a NODE are chained by rising bytes. */
    private static final class Model {
        private final int order;
        private final int room;
        private final int[] parents;
        private final int[] bytes;
        private final int[] counts;
        private final int[] firstChildren;
        private final int[] nextSiblings;
        private int nodeMany;
        private final int[] latestBytes;
        private int latestMany;
        // The NODE of each CONTEXT is kept, so that the way from the ROOT is not gone anew.
        private final int[] contexts;

        Model(int order, int room) {
            this.order = Math.max(0, order);
            this.room = Math.max(1, room);
            parents = new int[this.room];
            bytes = new int[this.room];
            counts = new int[this.room];
            firstChildren = new int[this.room];
            nextSiblings = new int[this.room];
            latestBytes = new int[this.order];
            contexts = new int[this.order + 1];
            begin();
        }

        void begin() {
            put(parents, ROOT, NONE);
            put(bytes, ROOT, NONE);
            put(counts, ROOT, 0);
            put(firstChildren, ROOT, NONE);
            put(nextSiblings, ROOT, NONE);
            put(contexts, 0, ROOT);
            nodeMany = 1;
            latestMany = 0;
        }

        void become(Model other) {
            nodeMany = other.nodeMany;
            latestMany = other.latestMany;
            copyFirst(other.parents, parents, nodeMany);
            copyFirst(other.bytes, bytes, nodeMany);
            copyFirst(other.counts, counts, nodeMany);
            copyFirst(other.firstChildren, firstChildren, nodeMany);
            copyFirst(other.nextSiblings, nextSiblings, nodeMany);
            copyFirst(other.latestBytes, latestBytes, latestMany);
            copyFirst(other.contexts, contexts, latestMany + 1);
        }

        boolean isLike(Model other) {
            if (nodeMany != other.nodeMany || latestMany != other.latestMany) {
                return false;
            }
            return sameFirst(parents, other.parents, nodeMany)
                && sameFirst(bytes, other.bytes, nodeMany)
                && sameFirst(counts, other.counts, nodeMany)
                && sameFirst(latestBytes, other.latestBytes, latestMany);
        }

        private static boolean sameFirst(int[] one, int[] two, int many) {
            for (int i = 0; i < many; i++) {
                if (at(one, i) != at(two, i)) {
                    return false;
                }
            }
            return true;
        }

        int nodeMany() {
            return nodeMany;
        }

        int parentOf(int i) {
            return at(parents, i);
        }

        int byteOf(int i) {
            return at(bytes, i);
        }

        int countOf(int i) {
            return at(counts, i);
        }

        int firstChild(int i) {
            return at(firstChildren, i);
        }

        int nextSibling(int i) {
            return at(nextSiblings, i);
        }

        int stepsTo(int i) {
            int steps = 0;
            for (int above = i; above > ROOT && steps < nodeMany; above = parentOf(above)) {
                steps++;
            }
            return steps;
        }

        int latestMany() {
            return latestMany;
        }

        int latestByte(int i) {
            return at(latestBytes, i);
        }

        int context(int k) {
            return at(contexts, k);
        }

        /** Learns a byte in the CONTEXTS from the lowest on: whether THE MODEL RESTARTED. */
        boolean learn(int b, int lowest) {
            for (int k = lowest; k <= latestMany; k++) {
                int context = context(k);
                int child = childOf(context, b);
                if (child != NONE) {
                    put(counts, child, countOf(child) + 1);
                } else if (nodeMany < room) {
                    growChild(context, b);
                } else {
                    begin();
                    return true;
                }
                lessenCounts(context);
            }
            remember(b);
            return false;
        }

        private int childOf(int parent, int b) {
            int left = nodeMany;
            for (int c = firstChild(parent); c != NONE && left > 0; c = nextSibling(c)) {
                if (byteOf(c) == b) {
                    return c;
                }
                left--;
            }
            return NONE;
        }

        private void growChild(int parent, int b) {
            int before = NONE;
            int after = firstChild(parent);
            for (int left = nodeMany; after != NONE && byteOf(after) < b && left > 0; left--) {
                before = after;
                after = nextSibling(after);
            }
            int grown = nodeMany;
            put(parents, grown, parent);
            put(bytes, grown, b);
            put(counts, grown, 1);
            put(firstChildren, grown, NONE);
            put(nextSiblings, grown, after);
            if (before == NONE) {
                put(firstChildren, parent, grown);
            } else {
                put(nextSiblings, before, grown);
            }
            nodeMany++;
        }

        private void lessenCounts(int parent) {
            if (countsTogether(parent) <= MOST_TOGETHER) {
                return;
            }
            int left = nodeMany;
            for (int c = firstChild(parent); c != NONE && left > 0; c = nextSibling(c)) {
                put(counts, c, (countOf(c) + 1) / 2);
                left--;
            }
        }

        private int countsTogether(int parent) {
            int sum = 0;
            int left = nodeMany;
            for (int c = firstChild(parent); c != NONE && left > 0; c = nextSibling(c)) {
                sum += countOf(c);
                left--;
            }
            return sum;
        }

        // The CONTEXT k + 1 behind the byte is the child of the CONTEXT k ahead of it.
        private void remember(int b) {
            if (order == 0) {
                return;
            }
            if (latestMany < order) {
                latestMany++;
            } else {
                for (int i = 1; i < latestMany; i++) {
                    put(latestBytes, i - 1, at(latestBytes, i));
                }
            }
            put(latestBytes, latestMany - 1, b);
            for (int k = latestMany; k > 0; k--) {
                put(contexts, k, childOf(context(k - 1), b));
            }
        }
    }

    /** What can be told in one CONTEXT, or FLAT: spans in a row, each beginning where one ends. */
    private static final class Choices {
        private final int[] signs = new int[SIGNS];
        private final int[] starts = new int[SIGNS + 1];
        private int many;

        void begin() {
            many = 0;
            put(starts, 0, 0);
        }

        void offer(int sign, int length) {
            put(signs, many, sign);
            put(starts, many + 1, at(starts, many) + length);
            many++;
        }

        int many() {
            return many;
        }

        int total() {
            return at(starts, many);
        }

        int signAt(int i) {
            return at(signs, i);
        }

        int startAt(int i) {
            return at(starts, i);
        }

        int lengthAt(int i) {
            return at(starts, i + 1) - at(starts, i);
        }

        /** Where a sign stands; if it does not, where the ESCAPE does, which is the last one. */
        int indexOf(int sign) {
            for (int i = 0; i < many; i++) {
                if (at(signs, i) == sign) {
                    return i;
                }
            }
            return many - 1;
        }

        int indexOfPoint(int point) {
            for (int i = 0; i < many; i++) {
                if (point < at(starts, i + 1)) {
                    return i;
                }
            }
            return many - 1;
        }
    }

    /** Goes down the CONTEXTS of a MODEL with one who says, or hears, a SIGN. */
    private static final class Teller {
        private final Choices choices = new Choices();
        // A byte is EXCLUDED if its mark is of this round: so no SIGN needs them wiped.
        private final int[] marks = new int[BYTES];
        private int round;
        private int excludedMany;
        private int escapes;
        private int foundIn;

        int excludedMany() {
            return excludedMany;
        }

        int escapes() {
            return escapes;
        }

        int foundIn() {
            return foundIn;
        }

        int lowestToLearn() {
            return foundIn == FLAT ? 0 : foundIn;
        }

        /** Tells one SIGN, span by span: which one it was. */
        int tell(Model model, Speaker speaker) {
            round++;
            excludedMany = 0;
            escapes = 0;
            for (int k = model.latestMany(); k >= 0; k--) {
                offerChildren(model, model.context(k));
                if (choices.many() == 0) {
                    continue;
                }
                choices.offer(ESCAPE, choices.many());
                int told = speaker.say(choices);
                if (told != ESCAPE) {
                    foundIn = k;
                    return told;
                }
                escapes++;
                excludeOffered();
            }
            foundIn = FLAT;
            offerFlat();
            return speaker.say(choices);
        }

        private boolean isExcluded(int sign) {
            return at(marks, sign) == round;
        }

        private void offerChildren(Model model, int context) {
            choices.begin();
            int left = model.nodeMany();
            for (int c = model.firstChild(context); c != NONE && left > 0; c = model.nextSibling(c)) {
                int b = model.byteOf(c);
                if (!isExcluded(b)) {
                    choices.offer(b, model.countOf(c));
                }
                left--;
            }
        }

        private void offerFlat() {
            choices.begin();
            for (int sign = 0; sign < SIGNS; sign++) {
                if (!isExcluded(sign)) {
                    choices.offer(sign, 1);
                }
            }
        }

        // All that were offered but the last one, which is the ESCAPE.
        private void excludeOffered() {
            for (int i = 0; i < choices.many() - 1; i++) {
                put(marks, choices.signAt(i), round);
                excludedMany++;
            }
        }
    }

    /** One who chooses among what can be told, and takes the span of what was chosen. */
    private abstract static class Speaker {
        abstract int choose(Choices choices);

        abstract void take(int from, int length, int total);

        final int say(Choices choices) {
            int i = choose(choices);
            take(choices.startAt(i), choices.lengthAt(i), choices.total());
            return choices.signAt(i);
        }
    }

    /** Adds up what a wanted SIGN would take, and writes nothing. */
    private static final class Meter extends Speaker {
        private int wanted;
        private int sum;

        void begin(int sign) {
            wanted = sign;
            sum = 0;
        }

        int sum() {
            return sum;
        }

        int choose(Choices choices) {
            return choices.indexOf(wanted);
        }

        void take(int from, int length, int total) {
            int k = 0;
            while (k < NUMBER_BITS && (length << k) < total) {
                k++;
            }
            sum += k;
        }
    }

    /** Makes SPANS into BITS; one who reads is one too, since what is read is written again. */
    private abstract static class Coder extends Speaker {
        private final Octets written;
        private int bits;
        private int low;
        private int high;
        private int held;

        Coder(Octets written) {
            this.written = written;
        }

        /** The same goes from low and high, which are doubled then. */
        abstract void shifted(int gone);

        void begin() {
            written.keepFirst(0);
            bits = 0;
            low = 0;
            high = WHOLE - 1;
            held = 0;
        }

        final Octets written() {
            return written;
        }

        final int bits() {
            return bits;
        }

        final int low() {
            return low;
        }

        final int width() {
            return high - low + 1;
        }

        final void take(int from, int length, int total) {
            if (total <= 0) {
                return;
            }
            int width = width();
            high = low + width * (from + length) / total - 1;
            low = low + width * from / total;
            for (int turn = 0; turn < NUMBER_BITS; turn++) {
                int gone = settledPart();
                if (gone == SETTLED) {
                    return;
                }
                if (gone == QUARTER) {
                    held++;
                } else {
                    putBit(gone == HALF ? 1 : 0);
                }
                low = 2 * (low - gone);
                high = 2 * (high - gone) + 1;
                shifted(gone);
            }
        }

        private int settledPart() {
            if (high < HALF) {
                return 0;
            }
            if (low >= HALF) {
                return HALF;
            }
            return low >= QUARTER && high < HALF + QUARTER ? QUARTER : SETTLED;
        }

        private void putBit(int bit) {
            written.setBit(bits, bit);
            bits++;
            for (; held > 0; held--) {
                written.setBit(bits, 1 - bit);
                bits++;
            }
        }

        final void finish() {
            held++;
            putBit(low < QUARTER ? 0 : 1);
        }
    }

    /** Writes wanted SIGNS. */
    private static final class Writer extends Coder {
        private int wanted;

        Writer(Octets written) {
            super(written);
        }

        void want(int sign) {
            wanted = sign;
        }

        int choose(Choices choices) {
            return choices.indexOf(wanted);
        }

        void shifted(int gone) {
            // Only one who reads has a number that goes along.
        }
    }

    /** Reads SIGNS, and writes them again to see whether they were written so. */
    private static final class Reader extends Coder {
        private final Octets source;
        private int number;
        private int taken;

        Reader(Octets source, Octets again) {
            super(again);
            this.source = source;
        }

        void begin() {
            super.begin();
            number = 0;
            taken = 0;
            for (int i = 0; i < NUMBER_BITS; i++) {
                shifted(0);
            }
        }

        int takenBehind() {
            return taken - 8 * source.many();
        }

        int firstDifference() {
            return source.firstDifference(written());
        }

        int choose(Choices choices) {
            int width = width();
            if (width <= 0) {
                return 0;
            }
            return choices.indexOfPoint(((number - low() + 1) * choices.total() - 1) / width);
        }

        void shifted(int gone) {
            number = 2 * (number - gone) + source.bitAt(taken);
            taken++;
        }
    }

    /** What is told of the latest pack(). */
    private static final class PackReport {
        private final int[] excluded = new int[MOST_BYTES + 1];
        private final int[] contexts = new int[MOST_BYTES + 1];
        private int signs;
        private int bits;
        private int escapes;
        private int restarts;

        void begin() {
            signs = 0;
            bits = 0;
            escapes = 0;
            restarts = 0;
        }

        void noteSign(Teller teller) {
            put(excluded, signs, teller.excludedMany());
            put(contexts, signs, teller.foundIn());
            escapes += teller.escapes();
            signs++;
        }

        void noteRestart() {
            restarts++;
        }

        void noteBits(int many) {
            bits = many;
        }

        int signs() {
            return signs;
        }

        int bits() {
            return bits;
        }

        int escapes() {
            return escapes;
        }

        int restarts() {
            return restarts;
        }

        int excludedOf(int i) {
            return at(excluded, i);
        }

        int contextOf(int i) {
            return at(contexts, i);
        }
    }
}
