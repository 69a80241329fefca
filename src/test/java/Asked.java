/**
 * What tests ask of an object through its face alone. To see all of a great tree they may go
 * beyond 512 calls: the document leaves free what is answered then, and this class goes on.
 */
final class Asked {
    static final int THROWS = Integer.MIN_VALUE;

    private Asked() {
    }

    /** node(), or THROWS; an exception that the machine threw by itself is not caught. */
    static int node(PpmTrees x, int end, int i, int what) {
        try {
            return x.node(end, i, what);
        } catch (ArrayIndexOutOfBoundsException e) {
            String text = e.getMessage();
            if (text != null && text.startsWith("Index ")) {
                throw new AssertionError("the machine threw", e);
            }
            return THROWS;
        }
    }

    /** A new object whose writer has said these bytes. */
    static PpmTrees packed(int order, int room, int... bytes) {
        PpmTrees x = new PpmTrees(order, room);
        addAll(x, bytes);
        x.pack();
        return x;
    }

    static void addAll(PpmTrees x, int... bytes) {
        for (int b : bytes) {
            x.add(b);
        }
    }

    static void addRepeated(PpmTrees x, int b, int times) {
        for (int i = 0; i < times; i++) {
            x.add(b);
        }
    }

    static String row(PpmTrees x, int which) {
        StringBuilder s = new StringBuilder();
        int many = x.size(which);
        for (int i = 0; i < many; i++) {
            s.append(i == 0 ? "" : " ").append(x.octet(which, i));
        }
        return s.toString();
    }

    /** NODES as parent/byte/count/steps, by their numbers. */
    static String tree(PpmTrees x, int end) {
        StringBuilder s = new StringBuilder();
        int many = x.nodes(end);
        for (int i = 0; i < many; i++) {
            s.append(i == 0 ? "" : " ");
            for (int what = 0; what <= 3; what++) {
                s.append(what == 0 ? "" : "/").append(node(x, end, i, what));
            }
        }
        return s.toString();
    }

    static String latest(PpmTrees x, int end) {
        StringBuilder s = new StringBuilder();
        for (int i = 0; x.latest(end, i) >= 0; i++) {
            s.append(i == 0 ? "" : " ").append(x.latest(end, i));
        }
        return s.toString();
    }

    /** The SIGNS of the latest pack() as excluded/context. */
    static String signs(PpmTrees x) {
        StringBuilder s = new StringBuilder();
        for (int i = 0; x.sign(i, 0) >= 0; i++) {
            s.append(i == 0 ? "" : " ").append(x.sign(i, 0)).append('/').append(x.sign(i, 1));
        }
        return s.toString();
    }

    /** A tree, and the latest bytes. */
    static String model(PpmTrees x, int end) {
        return tree(x, end) + "|" + latest(x, end);
    }

    /** What an end has: its model, its restarts, and its row: OUT, or THE RECEIVED. */
    static String end(PpmTrees x, int end) {
        return model(x, end) + "|" + x.restarted(end) + "|" + row(x, 1 + end);
    }

    /** What is known of the latest pack(). */
    static String packing(PpmTrees x) {
        return x.told(0) + "|" + x.told(1) + "|" + x.told(2) + "|" + signs(x);
    }

    /**
     * All of an object that can be seen without changing it. What is asked until it is refused
     * comes last: a refusal that changes something must not hide itself.
     */
    static String all(PpmTrees x) {
        StringBuilder s = new StringBuilder();
        for (int which = 0; which <= 2; which++) {
            s.append(row(x, which)).append('|');
        }
        for (int what = 0; what <= 2; what++) {
            s.append(x.told(what)).append('|');
        }
        s.append(x.place()).append('|').append(x.equal()).append('|');
        for (int end = 0; end <= 1; end++) {
            s.append(x.restarted(end)).append('|').append(tree(x, end)).append('|');
        }
        s.append(latest(x, 0)).append('|').append(latest(x, 1)).append('|').append(signs(x));
        return s.toString();
    }
}
