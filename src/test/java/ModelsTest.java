/** Promises 14 to 23: the models of both ends. */
public final class ModelsTest {
    private static final int MIN = Integer.MIN_VALUE;
    private static final int MAX = Integer.MAX_VALUE;
    private static final int[] NO_END = {-1, 2, MIN, MAX};
    private static final Due DUE = new Due("ModelsTest");

    private ModelsTest() {
    }

    public static void main(String[] args) {
        nodesAreCounted();
        nodesAreTold();
        latestBytesAreTold();
        restartsAreCounted();
        resetBeginsAnew();
        equalSeesCountsAndBytes();
        modelsAreKept();
        keptModelsStandAlone();
        costIsTold();
        DUE.end();
    }

    private static void say(PpmTrees x, int... bytes) {
        x.clear();
        Asked.addAll(x, bytes);
        x.pack();
    }

    private static void nodesAreCounted() {
        PpmTrees x = Asked.packed(2, 50, 1, 2, 1);
        // 1; 2 and 12; 1 (there), 21 and 121.
        DUE.is("nodes(0)", x.nodes(0), 6);
        DUE.is("nodes(1)", x.nodes(1), 1);
        x.open();
        DUE.is("nodes(1) behind open()", x.nodes(1), 6);
        for (int end : NO_END) {
            DUE.is("nodes(" + end + ")", x.nodes(end), -1);
        }
    }

    private static void nodesAreTold() {
        PpmTrees x = Asked.packed(2, 50, 1, 2, 1);
        DUE.is("the tree", Asked.tree(x, 0), "-1/-1/0/0 0/1/2/1 0/2/1/1 1/2/1/2 2/1/1/2 3/1/1/3");
        DUE.is("the other tree", Asked.tree(x, 1), "-1/-1/0/0");
        // Children of lesser bytes that come later have greater numbers.
        x = Asked.packed(0, 50, 9, 5, 7, 255, 0);
        DUE.is("falling bytes", Asked.tree(x, 0),
            "-1/-1/0/0 0/9/1/1 0/5/1/1 0/7/1/1 0/255/1/1 0/0/1/1");
        x = Asked.packed(4, 50, 1, 1, 1, 1, 1, 1, 1);
        DUE.is("steps of order 4", Asked.tree(x, 0),
            "-1/-1/0/0 0/1/2/1 1/1/2/2 2/1/2/3 3/1/2/4 4/1/3/5");
    }

    private static void latestBytesAreTold() {
        PpmTrees x = Asked.packed(3, 50, 4, 5);
        DUE.is("two latest", Asked.latest(x, 0), "4 5");
        say(x, 6, 7);
        DUE.is("three latest", Asked.latest(x, 0), "5 6 7");
        DUE.is("none of the reader", Asked.latest(x, 1), "");
        DUE.is("latest(0, 0)", x.latest(0, 0), 5);
        for (int i : new int[] {-1, 3, MIN, MAX}) {
            DUE.is("latest(0, " + i + ")", x.latest(0, i), -1);
        }
        for (int end : NO_END) {
            DUE.is("latest(" + end + ", 0)", x.latest(end, 0), -1);
            DUE.is("latest(" + end + ", -1)", x.latest(end, -1), -1);
        }
        // END is not learned.
        say(x);
        DUE.is("latest behind END", Asked.latest(x, 0), "5 6 7");
    }

    private static void restartsAreCounted() {
        PpmTrees x = new PpmTrees(0, 8);
        for (int b = 0; b < 24; b++) {
            x.add(b);
        }
        x.pack();
        DUE.is("told(2)", x.told(2), 3);
        DUE.is("restarted(0)", x.restarted(0), 3);
        DUE.is("restarted(1)", x.restarted(1), 0);
        int last = x.size(1) - 1;
        DUE.holds("the last bit is not of the text", x.told(0) % 8 != 0);
        int was = x.octet(1, last);
        x.alter(last, was ^ 1);
        DUE.is("open() with a fault", x.open(), -13);
        DUE.is("restarted(1) behind a fault", x.restarted(1), 0);
        x.alter(last, was);
        DUE.is("open()", x.open(), 24);
        DUE.is("restarted(1)", x.restarted(1), 3);
        x.save(0);
        x.pack();
        DUE.is("told(2) of the second", x.told(2), 3);
        DUE.is("restarted(0) in all", x.restarted(0), 6);
        x.reset(0);
        x.restore(0, 0);
        x.restore(1, 0);
        DUE.is("restarted(0) behind reset, restore", x.restarted(0), 6);
        DUE.is("restarted(1) behind restore", x.restarted(1), 3);
        for (int end : NO_END) {
            DUE.is("restarted(" + end + ")", x.restarted(end), -1);
        }
    }

    private static void resetBeginsAnew() {
        PpmTrees x = Asked.packed(2, 50, 1, 2, 1);
        x.open();
        for (int end : NO_END) {
            DUE.is("reset(" + end + ")", x.reset(end), -1);
        }
        DUE.is("nodes(0) behind refusals", x.nodes(0), 6);
        DUE.is("reset(0)", x.reset(0), 6);
        DUE.is("the tree", Asked.tree(x, 0), "-1/-1/0/0");
        DUE.is("latest", Asked.latest(x, 0), "");
        DUE.is("nodes(1)", x.nodes(1), 6);
        DUE.is("latest of the other", Asked.latest(x, 1), "2 1");
        DUE.is("reset(0) again", x.reset(0), 1);
        DUE.is("reset(1)", x.reset(1), 6);
        DUE.is("OUT is read as at first", x.open(), 3);
    }

    private static void equalSeesCountsAndBytes() {
        PpmTrees x = new PpmTrees(0, 50);
        DUE.is("equal() at first", x.equal(), 1);
        say(x, 1);
        DUE.is("equal(): more nodes", x.equal(), 0);
        x.open();
        DUE.is("equal() behind open()", x.equal(), 1);
        say(x, 1);
        DUE.is("equal(): another count", x.equal(), 0);
        x.reset(0);
        say(x, 2);
        DUE.is("equal(): another byte", x.equal(), 0);
        x.reset(0);
        say(x, 1);
        DUE.is("equal(): made twice", x.equal(), 1);
        say(x, 2);
        DUE.is("equal(): one node more at 0", x.equal(), 0);
        x.save(0);
        x.restore(1, 0);
        x.reset(0);
        say(x, 1);
        DUE.is("equal(): one node more at 1", x.equal(), 0);
        x = new PpmTrees(0, 8);
        say(x, 1, 2, 3, 4, 5, 6, 7, 8, 9);
        x.reset(0);
        DUE.is("equal() is not of restarts", x.equal(), 1);
    }

    private static void modelsAreKept() {
        PpmTrees x = Asked.packed(2, 50, 1, 2, 1);
        String tree = Asked.tree(x, 0);
        DUE.is("save(0)", x.save(0), 0);
        DUE.is("save(1)", x.save(1), 1);
        say(x, 9, 8);
        String longer = Asked.tree(x, 0);
        DUE.is("save(0) of more", x.save(0), 2);
        DUE.is("restore(1, 0)", x.restore(1, 0), 6);
        DUE.is("the tree restored", Asked.tree(x, 1), tree);
        DUE.is("latest restored", Asked.latest(x, 1), "2 1");
        DUE.is("the other tree", Asked.tree(x, 0), longer);
        DUE.is("open() of what came behind it", x.open(), 2);
        DUE.is("equal()", x.equal(), 1);
        DUE.is("restore(0, 1)", x.restore(0, 1), 1);
        DUE.is("the root alone", Asked.tree(x, 0), "-1/-1/0/0");
        DUE.is("latest of the root alone", Asked.latest(x, 0), "");
        DUE.is("restore(0, 2)", x.restore(0, 2), x.nodes(1));
        DUE.is("equal() again", x.equal(), 1);
        DUE.is("forget()", x.forget(), 3);
        DUE.is("forget() again", x.forget(), 0);
        DUE.is("the models stay", Asked.tree(x, 0), longer);
        DUE.is("save(1) behind forget()", x.save(1), 0);
    }

    private static void keptModelsStandAlone() {
        PpmTrees x = Asked.packed(1, 50, 1, 2);
        String tree = Asked.tree(x, 0);
        x.save(0);
        x.restore(0, 0);
        say(x, 2, 1, 3);
        x.reset(1);
        x.restore(1, 0);
        DUE.is("kept in spite of pack()", Asked.tree(x, 1), tree);
        DUE.is("latest kept", Asked.latest(x, 1), "2");
        x.reset(0);
        DUE.is("restored in spite of reset()", x.restore(0, 0), 4);
        DUE.is("equal()", x.equal(), 1);
        // A model is kept where a forgotten one was; nothing of that one comes back.
        x.forget();
        x.reset(0);
        x.save(0);
        DUE.is("restore of the root alone", x.restore(1, 0), 1);
        say(x, 5);
        DUE.is("open() by it", x.open(), 1);
        DUE.is("equal() by it", x.equal(), 1);
    }

    private static void costIsTold() {
        PpmTrees x = new PpmTrees(1, 50);
        DUE.is("cost of 1 of 257", x.cost(0, 0), 9);
        DUE.is("cost of END, 1 of 257", x.cost(1, 256), 9);
        say(x, 'a', 'b', 'a', 'b', 'a', 'c', 'a');
        // In context 1 b has 2 and c 1 of 5, the escape 2; in context 0 a has 3 of 4 then, the
        // escape 1; flat is 1 of 254.
        DUE.is("cost of a: 2 of 5, 3 of 4", x.cost(0, 'a'), 3);
        DUE.is("cost of b: 2 of 5", x.cost(0, 'b'), 2);
        DUE.is("cost of c: 1 of 5", x.cost(0, 'c'), 3);
        DUE.is("cost of d: 2 of 5, 1 of 4, 1 of 254", x.cost(0, 'd'), 12);
        DUE.is("cost of END", x.cost(0, 256), 12);
        DUE.is("cost at the other end", x.cost(1, 'a'), 9);
        x = new PpmTrees(0, 50);
        say(x, 0);
        DUE.is("cost of 1 of 2", x.cost(0, 0), 1);
        DUE.is("cost of 1 of 2, 1 of 256", x.cost(0, 1), 9);
    }
}
