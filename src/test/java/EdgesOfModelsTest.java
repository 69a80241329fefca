import java.util.function.ToIntFunction;

/** The boundary cases of promises 14 to 23: the models of both ends. */
public final class EdgesOfModelsTest extends Edges {
    private static final String NO_END_OR_WHAT = "BAD (first): no such end, what";
    private static final String ROOTS = "(both -1 of the ROOT), 2 its COUNT (0 of the ROOT)";
    private static final String THROWS = "throws ArrayIndexOutOfBoundsException";
    private static final String NO_LATEST = "BAD: no such end, no such one";
    private static final String NOTHING = "(an open() with a FAULT, reset(), restore() count for nothing)";
    private static final String SAME = "as many NODES, by their numbers the same parents, bytes, COUNTS";
    private static final String NOT_KEPT = "BAD: no such end, or none such kept";
    private static final String LEAST_K = "the least k for which l times 2 to the k is t or more, together";
    private static final String NO_SIGN = "BAD: no such end, SIGN";

    private EdgesOfModelsTest() {
    }

    public static void main(String[] args) throws Exception {
        run(EdgesOfModelsTest.class, 14, 23);
    }

    /** Makes a call of an end that is too small, or too large, which both must be BAD. */
    private interface EndCall {
        int ask(PpmTrees x, int end);
    }

    private static void refusedEnds(String call, EndCall asked, int... ends) {
        for (int end : ends) {
            ToIntFunction<PpmTrees> one = x -> asked.ask(x, end);
            refused(call + " of end " + end, one, BAD);
        }
    }

    private static void say(PpmTrees x, int... bytes) {
        x.clear();
        Asked.addAll(x, bytes);
        x.pack();
    }

    /** The writer's model of these bytes, given to the reader. */
    private static void giveReader(PpmTrees x) {
        x.forget();
        x.save(0);
        x.restore(1, 0);
        x.forget();
        x.reset(0);
    }

    private static String allButTheModelOf(PpmTrees x, int end) {
        return Asked.end(x, 1 - end) + "|" + Asked.row(x, 0) + "|" + Asked.row(x, 1 + end) + "|"
            + x.restarted(end) + "|" + x.place() + "|" + Asked.packing(x);
    }

    // ---- promise 14

    @Edge(of = 14, says = "How many NODES an end has.")
    static void nodesOfTheRootAlone() {
        is("nodes(0)", fresh().nodes(0), 1);
        is("nodes(1)", fresh().nodes(1), 1);
    }

    @Edge(of = 14, says = "How many NODES an end has.")
    static void nodesOfAFullRoom() {
        PpmTrees x = Asked.packed(0, 8, 1, 2, 3, 4, 5, 6, 7);
        x.open();
        is("nodes(0)", x.nodes(0), 8);
        is("nodes(1)", x.nodes(1), 8);
    }

    @Edge(of = 14, says = "How many NODES an end has.")
    static void nodesOfEachEnd() {
        is("nodes(0)", rich().nodes(0), 6);
        is("nodes(1)", rich().nodes(1), 2);
    }

    @Edge(of = 14, says = "BAD")
    static void nodesOfTooSmallAnEnd() {
        refusedEnds("nodes", PpmTrees::nodes, -1, MIN);
    }

    @Edge(of = 14, says = "BAD")
    static void nodesOfTooLargeAnEnd() {
        refusedEnds("nodes", PpmTrees::nodes, 2, MAX);
    }

    // ---- promise 15

    private static void refusedNode(int end, int i, int what, int answer) {
        refused("node(" + end + ", " + i + ", " + what + ")", x -> Asked.node(x, end, i, what), answer);
    }

    @Edge(of = 15, says = ROOTS)
    static void nodeIsTheRoot() {
        for (int end = 0; end <= 1; end++) {
            is("the parent of root " + end, Asked.node(rich(), end, 0, 0), -1);
            is("the byte of root " + end, Asked.node(rich(), end, 0, 1), -1);
            is("the count of root " + end, Asked.node(rich(), end, 0, 2), 0);
            is("the steps of root " + end, Asked.node(rich(), end, 0, 3), 0);
        }
    }

    @Edge(of = 15, says = "Of NODE i of an end")
    static void nodeIsTheLast() {
        PpmTrees x = rich();
        is("node(0, 5, 0)", Asked.node(x, 0, 5, 0), 2);
        is("node(0, 5, 1)", Asked.node(x, 0, 5, 1), 0);
        is("node(0, 5, 2)", Asked.node(x, 0, 5, 2), 1);
        is("node(0, 5, 3)", Asked.node(x, 0, 5, 3), 3);
        is("node(1, 1, 1)", Asked.node(x, 1, 1, 1), 2);
    }

    @Edge(of = 15, says = "Of NODE i of an end")
    static void nodeIsTheLastOfAFullRoom() {
        PpmTrees x = Asked.packed(0, 8, 1, 2, 3, 4, 5, 6, 255);
        is("node(0, 7, 1)", Asked.node(x, 0, 7, 1), 255);
        is("node(0, 8, 1)", Asked.node(x, 0, 8, 1), Asked.THROWS);
    }

    @Edge(of = 15, says = "3 how many steps it is from the ROOT")
    static void nodeIsFiveStepsFromTheRoot() {
        PpmTrees x = Asked.packed(4, 50, 1, 1, 1, 1, 1, 1);
        is("node(0, 5, 3)", Asked.node(x, 0, 5, 3), 5);
        is("the last one", x.nodes(0), 6);
    }

    @Edge(of = 15, says = THROWS)
    static void nodeAheadOfTheRoot() {
        for (int what = 0; what <= 3; what++) {
            refusedNode(0, -1, what, Asked.THROWS);
            refusedNode(1, MIN, what, Asked.THROWS);
        }
    }

    @Edge(of = 15, says = THROWS)
    static void nodeBehindTheLast() {
        for (int what = 0; what <= 3; what++) {
            refusedNode(0, 6, what, Asked.THROWS);
            refusedNode(1, 2, what, Asked.THROWS);
            refusedNode(0, MAX, what, Asked.THROWS);
        }
    }

    @Edge(of = 15, says = THROWS)
    static void nodeThatIsGone() {
        PpmTrees x = rich();
        x.reset(0);
        is("node(0, 1, 0) behind reset(0)", Asked.node(x, 0, 1, 0), Asked.THROWS);
        is("node(1, 1, 0)", Asked.node(x, 1, 1, 0), 0);
    }

    @Edge(of = 15, says = NO_END_OR_WHAT)
    static void nodeOfNoEnd() {
        for (int end : new int[] {-1, 2, MIN, MAX}) {
            refusedNode(end, 0, 0, BAD);
        }
    }

    @Edge(of = 15, says = NO_END_OR_WHAT)
    static void nodeOfTooSmallAWhat() {
        refusedNode(0, 0, -1, BAD);
        refusedNode(0, 0, MIN, BAD);
    }

    @Edge(of = 15, says = NO_END_OR_WHAT)
    static void nodeOfTooLargeAWhat() {
        refusedNode(0, 0, 4, BAD);
        refusedNode(0, 0, MAX, BAD);
    }

    @Edge(of = 15, says = NO_END_OR_WHAT)
    static void nodeOfNoEndIsBadBeforeItThrows() {
        refusedNode(-1, 6, 0, BAD);
        refusedNode(2, -1, 0, BAD);
    }

    @Edge(of = 15, says = NO_END_OR_WHAT)
    static void nodeOfNoWhatIsBadBeforeItThrows() {
        refusedNode(0, 6, 4, BAD);
        refusedNode(0, -1, -1, BAD);
    }

    // ---- promise 16

    @Edge(of = 16, says = "the eldest first")
    static void latestIsTheEldest() {
        is("latest(0, 0)", rich().latest(0, 0), 3);
        is("latest(1, 0)", rich().latest(1, 0), 2);
    }

    @Edge(of = 16, says = "the eldest first")
    static void latestIsTheLast() {
        is("latest(0, 1)", rich().latest(0, 1), 0);
    }

    @Edge(of = 16, says = NO_LATEST)
    static void latestAheadOfTheEldest() {
        refused("latest(0, -1)", x -> x.latest(0, -1), BAD);
        refused("latest(1, MIN)", x -> x.latest(1, MIN), BAD);
    }

    @Edge(of = 16, says = NO_LATEST)
    static void latestBehindTheLast() {
        refused("latest(0, 2)", x -> x.latest(0, 2), BAD);
        refused("latest(0, MAX)", x -> x.latest(0, MAX), BAD);
    }

    @Edge(of = 16, says = NO_LATEST)
    static void latestBehindTheLastOfFewerThanOrder() {
        refused("latest(1, 1)", x -> x.latest(1, 1), BAD);
    }

    @Edge(of = 16, says = NO_LATEST)
    static void latestOfNone() {
        refused(Edges::fresh, "latest(0, 0)", x -> x.latest(0, 0), BAD);
        is("latest(0, 0) of order 0", Asked.packed(0, 8, 5, 6).latest(0, 0), BAD);
    }

    @Edge(of = 16, says = NO_LATEST)
    static void latestOfNoEnd() {
        for (int end : new int[] {-1, 2, MIN, MAX}) {
            refused("latest(" + end + ", 0)", x -> x.latest(end, 0), BAD);
            refused("latest(" + end + ", -1)", x -> x.latest(end, -1), BAD);
        }
    }

    // ---- promise 17

    /** Of order 0 and room 8 each eighth new byte restarts the model: the bytes from 0 on. */
    private static PpmTrees restarting(int bytes) {
        PpmTrees x = new PpmTrees(0, 8);
        for (int b = 0; b < bytes; b++) {
            x.add(b);
        }
        x.pack();
        return x;
    }

    @Edge(of = 17, says = "How often an end's MODEL has RESTARTED in all")
    static void restartedNever() {
        is("restarted(0) at first", fresh().restarted(0), 0);
        is("restarted(1) at first", fresh().restarted(1), 0);
        is("restarted(0) in a full room", restarting(7).restarted(0), 0);
    }

    @Edge(of = 17, says = "How often an end's MODEL has RESTARTED in all")
    static void restartedByTheLastByte() {
        PpmTrees x = restarting(8);
        is("restarted(0)", x.restarted(0), 1);
        is("restarted(1)", x.restarted(1), 0);
        x.open();
        is("restarted(1) behind open()", x.restarted(1), 1);
    }

    @Edge(of = 17, says = "How often an end's MODEL has RESTARTED in all")
    static void restartedInSeveralPacks() {
        PpmTrees x = restarting(16);
        is("restarted(0)", x.restarted(0), 2);
        x.open();
        x.pack();
        is("restarted(0) in all", x.restarted(0), 4);
        is("told(2) of the latest", x.told(2), 2);
        x.open();
        is("restarted(1) in all", x.restarted(1), 4);
    }

    @Edge(of = 17, says = NOTHING)
    static void restartedBehindAFault() {
        PpmTrees x = restarting(24);
        holds("the last bit is not of the text", x.told(0) % 8 != 0);
        int last = x.size(1) - 1;
        int was = x.octet(1, last);
        x.alter(last, was ^ 1);
        is("open()", x.open(), -13);
        is("restarted(1)", x.restarted(1), 0);
        x.alter(last, was);
        x.open();
        is("restarted(1) without fault", x.restarted(1), 3);
    }

    @Edge(of = 17, says = NOTHING)
    static void restartedBehindReset() {
        PpmTrees x = restarting(16);
        x.open();
        x.reset(0);
        x.reset(1);
        is("restarted(0)", x.restarted(0), 2);
        is("restarted(1)", x.restarted(1), 2);
    }

    @Edge(of = 17, says = NOTHING)
    static void restartedBehindRestore() {
        PpmTrees x = restarting(16);
        x.save(0);
        x.restore(1, 0);
        is("restarted(1)", x.restarted(1), 0);
        x.pack();
        x.restore(0, 0);
        is("restarted(0)", x.restarted(0), 4);
    }

    @Edge(of = 17, says = "BAD")
    static void restartedOfNoEnd() {
        refusedEnds("restarted", PpmTrees::restarted, -1, 2, MIN, MAX);
    }

    // ---- promise 18

    @Edge(of = 18, says = "how many NODES it had")
    static void resetOfTheRootAlone() {
        is("reset(0)", fresh().reset(0), 1);
        is("reset(1)", fresh().reset(1), 1);
    }

    @Edge(of = 18, says = "how many NODES it had")
    static void resetOfAFullRoom() {
        PpmTrees x = Asked.packed(0, 8, 1, 2, 3, 4, 5, 6, 7);
        is("reset(0)", x.reset(0), 8);
        is("nodes(0)", x.nodes(0), 1);
    }

    @Edge(of = 18, says = "An end's MODEL is as at first")
    static void resetLeavesNothingBehind() {
        for (int end = 0; end <= 1; end++) {
            PpmTrees x = rich();
            x.reset(end);
            is("the model of end " + end, Asked.model(x, end), "-1/-1/0/0|");
            is("cost(" + end + ", 3)", x.cost(end, 3), 9);
        }
        PpmTrees x = rich();
        x.reset(0);
        say(x, 7, 8);
        is("the model anew", Asked.model(x, 0), "-1/-1/0/0 0/7/1/1 0/8/1/1 1/8/1/2|7 8");
    }

    @Edge(of = 18, says = "An end's MODEL is as at first")
    static void resetLeavesTheOtherEnd() {
        for (int end = 0; end <= 1; end++) {
            PpmTrees x = rich();
            String before = allButTheModelOf(x, end);
            x.reset(end);
            is("all but the model of " + end, allButTheModelOf(x, end), before);
        }
    }

    @Edge(of = 18, says = "An end's MODEL is as at first")
    static void resetLeavesWhatIsKept() {
        for (int end = 0; end <= 1; end++) {
            PpmTrees x = rich();
            String model = Asked.model(x, end);
            int kept = x.save(end);
            x.reset(end);
            x.restore(end, kept);
            is("the model of " + end, Asked.model(x, end), model);
        }
    }

    @Edge(of = 18, says = "BAD")
    static void resetOfNoEnd() {
        refusedEnds("reset", PpmTrees::reset, -1, 2, MIN, MAX);
    }

    // ---- promise 19

    @Edge(of = 19, says = SAME)
    static void equalAtFirst() {
        is("equal()", fresh().equal(), 1);
    }

    /** Whether the models that the writer makes of two texts, each from the first, are equal. */
    private static int equalOf(int order, int[] one, int[] two) {
        PpmTrees x = new PpmTrees(order, 1500);
        say(x, one);
        giveReader(x);
        say(x, two);
        return x.equal();
    }

    @Edge(of = 19, says = SAME)
    static void equalWhenMadeApart() {
        is("equal()", equalOf(2, new int[] {1, 2, 1}, new int[] {1, 2, 1}), 1);
    }

    @Edge(of = 19, says = "as many NODES")
    static void equalSeesOneNodeMore() {
        is("the writer has more", equalOf(0, new int[] {1}, new int[] {1, 2}), 0);
        is("the reader has more", equalOf(0, new int[] {1, 2}, new int[] {1}), 0);
        is("the writer has the root alone", equalOf(0, new int[] {1}, new int[] {}), 0);
    }

    @Edge(of = 19, says = "the same parents")
    static void equalSeesOtherParents() {
        // Bytes, COUNTS and the LATEST are the same: the last two nodes have changed their parents.
        int[] one = {'a', 'b', 'c', 'a', 'b', 'a', 'a'};
        int[] two = {'a', 'b', 'c', 'a', 'a', 'b', 'a'};
        is("equal()", equalOf(1, one, two), 0);
    }

    @Edge(of = 19, says = "the same parents, bytes")
    static void equalSeesOtherBytes() {
        is("equal()", equalOf(0, new int[] {1, 2}, new int[] {1, 3}), 0);
    }

    @Edge(of = 19, says = "the same parents, bytes, COUNTS")
    static void equalSeesOtherCounts() {
        is("equal()", equalOf(0, new int[] {1, 2}, new int[] {1, 2, 2}), 0);
    }

    @Edge(of = 19, says = "by their numbers")
    static void equalSeesOtherNumbers() {
        is("equal()", equalOf(0, new int[] {1, 2}, new int[] {2, 1}), 0);
    }

    @Edge(of = 19, says = "the same LATEST bytes")
    static void equalSeesOtherLatestBytes() {
        PpmTrees x = new PpmTrees(1, 1500);
        for (int part = 0; part < 2; part++) {
            x.clear();
            for (int b = 0; b < 100; b++) {
                Asked.addAll(x, 255, 100 * part + b);
            }
            x.pack();
        }
        say(x, 255);
        x.save(0);
        x.restore(1, 0);
        is("equal() behind restore", x.equal(), 1);
        // 200 bytes came once behind 255: one more, and all counts are halved to 1 again.
        say(x, 7);
        is("the same trees", Asked.tree(x, 0), Asked.tree(x, 1));
        is("equal()", x.equal(), 0);
    }

    @Edge(of = 19, says = "Whether both MODELS are the same")
    static void equalIsNotOfRestarts() {
        PpmTrees x = restarting(8);
        is("restarted(0)", x.restarted(0), 1);
        is("equal()", x.equal(), 1);
    }

    // ---- promise 20

    /** A rich object that keeps four models. */
    private static PpmTrees keepingFour() {
        PpmTrees x = rich();
        x.save(0);
        x.save(1);
        return x;
    }

    @Edge(of = 20, says = "the number of what is kept")
    static void saveOfTheFirst() {
        is("save(0)", fresh().save(0), 0);
        is("save(1)", fresh().save(1), 0);
    }

    @Edge(of = 20, says = "the number of what is kept")
    static void saveOfTheFourth() {
        PpmTrees x = rich();
        is("the third", x.save(0), 2);
        is("the fourth", x.save(1), 3);
        is("restore(0, 3)", x.restore(0, 3), 2);
    }

    @Edge(of = 20, says = "FULL: 4 are kept")
    static void saveOfTheFifth() {
        refused(EdgesOfModelsTest::keepingFour, "save(0) of the fifth", x -> x.save(0), FULL);
        refused(EdgesOfModelsTest::keepingFour, "save(1) of the fifth", x -> x.save(1), FULL);
    }

    @Edge(of = 20, says = "the number of what is kept")
    static void saveBehindForget() {
        PpmTrees x = keepingFour();
        x.forget();
        for (int i = 0; i < 4; i++) {
            is("save(0)", x.save(0), i);
        }
        is("save(0) of the fifth", x.save(0), FULL);
    }

    @Edge(of = 20, says = "An end's MODEL is kept")
    static void saveOfTheRootAloneWhereMoreWasKept() {
        PpmTrees x = keepingFour();
        x.forget();
        x.reset(0);
        x.save(0);
        is("restore(1, 0)", x.restore(1, 0), 1);
        is("the model", Asked.model(x, 1), "-1/-1/0/0|");
        say(x, 5, 6);
        is("open()", x.open(), 2);
        is("equal()", x.equal(), 1);
    }

    @Edge(of = 20, says = "An end's MODEL is kept")
    static void saveOfAFullRoom() {
        PpmTrees x = Asked.packed(0, 8, 1, 2, 3, 4, 5, 6, 7);
        x.save(0);
        is("restore(1, 0)", x.restore(1, 0), 8);
        is("equal()", x.equal(), 1);
    }

    @Edge(of = 20, says = "An end's MODEL is kept")
    static void saveLeavesAllElse() {
        PpmTrees x = rich();
        String before = Asked.all(x);
        x.save(0);
        is("all that is seen", Asked.all(x), before);
    }

    @Edge(of = 20, says = "An end's MODEL is kept")
    static void savedModelStaysWhenTheEndLearns() {
        PpmTrees x = Asked.packed(2, 50, 1, 2, 1);
        x.open();
        String model = Asked.model(x, 0);
        is("save(0)", x.save(0), 0);
        is("save(1)", x.save(1), 1);
        for (int i = 0; i < 2; i++) {
            say(x, 3, 4, 5);
            is("open()", x.open(), 3);
        }
        for (int kept = 0; kept <= 1; kept++) {
            x.restore(1 - kept, kept);
            is("what is kept of " + kept, Asked.model(x, 1 - kept), model);
        }
    }

    @Edge(of = 20, says = "BAD")
    static void saveOfNoEnd() {
        refusedEnds("save", PpmTrees::save, -1, 2, MIN, MAX);
    }

    @Edge(of = 20, says = "BAD; FULL")
    static void saveOfNoEndWhenFourAreKept() {
        refused(EdgesOfModelsTest::keepingFour, "save(-1)", x -> x.save(-1), BAD);
        refused(EdgesOfModelsTest::keepingFour, "save(2)", x -> x.save(2), BAD);
    }

    // ---- promise 21

    @Edge(of = 21, says = "(that stays)")
    static void restoreOfTheSameTwice() {
        PpmTrees x = rich();
        String model = Asked.model(x, 0);
        is("restore(1, 1)", x.restore(1, 1), 6);
        is("the reader's model", Asked.model(x, 1), model);
        say(x, 9, 9);
        x.reset(1);
        is("restore(0, 1)", x.restore(0, 1), 6);
        is("the writer's model", Asked.model(x, 0), model);
        is("restore(1, 1) again", x.restore(1, 1), 6);
        is("equal()", x.equal(), 1);
    }

    @Edge(of = 21, says = "(that stays)")
    static void restoredModelGrowsAlone() {
        PpmTrees x = rich();
        x.restore(0, 1);
        x.restore(1, 1);
        String model = Asked.model(x, 1);
        say(x, 9, 3, 9);
        is("the reader's model", Asked.model(x, 1), model);
        is("restore(0, 1)", x.restore(0, 1), 6);
        is("the writer's model", Asked.model(x, 0), model);
    }

    @Edge(of = 21, says = "how many NODES it has")
    static void restoreOfTheRootAlone() {
        PpmTrees x = Asked.packed(2, 50, 1, 2, 1);
        x.save(1);
        is("restore(0, 0)", x.restore(0, 0), 1);
        is("the model", Asked.model(x, 0), "-1/-1/0/0|");
    }

    @Edge(of = 21, says = "An end's MODEL becomes what is kept")
    static void restoreLeavesTheOtherEnd() {
        for (int end = 0; end <= 1; end++) {
            PpmTrees x = Asked.packed(2, 50, 7, 7, 8);
            x.save(0);
            x.reset(0);
            say(x, 1, 2);
            x.open();
            say(x, 9);
            String before = allButTheModelOf(x, end);
            is("restore(" + end + ", 0)", x.restore(end, 0), 6);
            is("all but the model of " + end, allButTheModelOf(x, end), before);
        }
    }

    @Edge(of = 21, says = "An end's MODEL becomes what is kept")
    static void restoredContextsFindAgain() {
        PpmTrees x = Asked.packed(2, 50, 1, 2, 3, 1, 2);
        x.save(0);
        say(x, 9, 9);
        x.restore(0, 0);
        // Behind 1, 2 comes 3: it is found in the context of both.
        say(x, 3);
        is("sign(0, 1)", x.sign(0, 1), 2);
    }

    @Edge(of = 21, says = NOT_KEPT)
    static void restoreOfTooSmallANumber() {
        refused("restore(0, -1)", x -> x.restore(0, -1), BAD);
        refused("restore(1, MIN)", x -> x.restore(1, MIN), BAD);
    }

    @Edge(of = 21, says = NOT_KEPT)
    static void restoreOfTooLargeANumber() {
        refused("restore(0, 2) of two", x -> x.restore(0, 2), BAD);
        refused("restore(1, MAX)", x -> x.restore(1, MAX), BAD);
        refused(EdgesOfModelsTest::keepingFour, "restore(0, 4) of four", x -> x.restore(0, 4), BAD);
    }

    @Edge(of = 21, says = NOT_KEPT)
    static void restoreOfNoneKept() {
        refused(Edges::fresh, "restore(0, 0) of none", x -> x.restore(0, 0), BAD);
        refused(() -> Asked.packed(2, 50, 1, 2), "restore(1, 0) of none", x -> x.restore(1, 0), BAD);
    }

    @Edge(of = 21, says = NOT_KEPT)
    static void restoreOfNoEnd() {
        refusedEnds("restore", (x, end) -> x.restore(end, 0), -1, 2, MIN, MAX);
    }

    // ---- promise 22

    @Edge(of = 22, says = "how many there were")
    static void forgetOfNone() {
        is("forget()", fresh().forget(), 0);
        PpmTrees x = rich();
        x.forget();
        is("forget() again", x.forget(), 0);
    }

    @Edge(of = 22, says = "how many there were")
    static void forgetOfFour() {
        is("forget()", keepingFour().forget(), 4);
    }

    @Edge(of = 22, says = "Nothing is kept any more")
    static void forgetAllThatWasKept() {
        PpmTrees x = keepingFour();
        x.forget();
        for (int kept = 0; kept < 4; kept++) {
            is("restore(0, " + kept + ")", x.restore(0, kept), BAD);
        }
        x.save(0);
        is("restore(1, 0)", x.restore(1, 0), 6);
        is("restore(1, 1)", x.restore(1, 1), BAD);
    }

    @Edge(of = 22, says = "Nothing is kept any more")
    static void forgetLeavesAllElse() {
        PpmTrees x = keepingFour();
        String before = Asked.all(x);
        x.forget();
        is("all that is seen", Asked.all(x), before);
    }

    // ---- promise 23

    @Edge(of = 23, says = LEAST_K)
    static void costOfAPowerOfTwo() {
        PpmTrees x = Asked.packed(0, 8, 7);
        is("1 of 2", x.cost(0, 7), 1);
        is("1 of 2 and 1 of 256", x.cost(0, 8), 9);
        x = Asked.packed(0, 8, 5, 5, 9, 9, 9, 9);
        is("2 of 8", x.cost(0, 5), 2);
        is("4 of 8", x.cost(0, 9), 1);
    }

    @Edge(of = 23, says = LEAST_K)
    static void costOfOneMoreThanAPowerOfTwo() {
        is("1 of 257", fresh().cost(0, 0), 9);
        PpmTrees x = Asked.packed(0, 8, 7, 7, 7, 8);
        say(x, 8);
        // 7 has 3, 8 has 2, and the ESCAPE 2 of 7.
        is("3 of 7", x.cost(0, 7), 2);
        is("2 of 7", x.cost(0, 8), 2);
        x = Asked.packed(0, 8, 7, 7, 8);
        is("1 of 5", x.cost(0, 8), 3);
    }

    @Edge(of = 23, says = LEAST_K)
    static void costOfOneLessThanAPowerOfTwo() {
        PpmTrees x = Asked.packed(0, 8, 7, 7);
        is("2 of 3", x.cost(0, 7), 1);
        is("1 of 3 and 1 of 256", x.cost(0, 8), 10);
        x = Asked.packed(0, 8, 7, 8);
        is("2 of 4 and 1 of 255", x.cost(0, 9), 9);
    }

    @Edge(of = 23, says = LEAST_K)
    static void costOfTheOnlySignLeft() {
        PpmTrees x = new PpmTrees(0, 1500);
        for (int b = 0; b < 256; b++) {
            x.add(b);
        }
        x.pack();
        is("256 of 512 and 1 of 1", x.cost(0, END), 1);
        is("1 of 512", x.cost(0, 255), 9);
    }

    @Edge(of = 23, says = LEAST_K)
    static void costOfAFullContext() {
        PpmTrees x = new PpmTrees(0, 8);
        Asked.addRepeated(x, 7, 200);
        x.pack();
        is("200 of 201", x.cost(0, 7), 1);
        is("1 of 201 and 1 of 256", x.cost(0, 8), 16);
    }

    @Edge(of = 23, says = "for each of its spans")
    static void costOfPassedContexts() {
        // Both contexts have 7 alone: the second one is passed, and only one ESCAPE is told.
        PpmTrees x = Asked.packed(1, 8, 7, 7);
        is("1 of 2 and 1 of 256", x.cost(0, END), 9);
        // The greatest context has no children.
        x = Asked.packed(1, 8, 7, 8);
        is("1 of 4", x.cost(0, 7), 2);
    }

    @Edge(of = 23, says = NO_SIGN)
    static void costOfTheLeastAndTheGreatestSign() {
        for (int end = 0; end <= 1; end++) {
            is("cost(" + end + ", 0)", fresh().cost(end, 0), 9);
            is("cost(" + end + ", 255)", fresh().cost(end, 255), 9);
            is("cost(" + end + ", 256)", fresh().cost(end, END), 9);
        }
    }

    @Edge(of = 23, says = NO_SIGN)
    static void costOfTooSmallASign() {
        refused("cost(0, -1)", x -> x.cost(0, -1), BAD);
        refused("cost(1, MIN)", x -> x.cost(1, MIN), BAD);
    }

    @Edge(of = 23, says = NO_SIGN)
    static void costOfTooLargeASign() {
        refused("cost(0, 257)", x -> x.cost(0, 257), BAD);
        refused("cost(1, MAX)", x -> x.cost(1, MAX), BAD);
    }

    @Edge(of = 23, says = NO_SIGN)
    static void costOfNoEnd() {
        refusedEnds("cost", (x, end) -> x.cost(end, 0), -1, 2, MIN, MAX);
    }

    @Edge(of = 23, says = "What it would take an end to tell a SIGN now")
    static void costChangesNothing() {
        for (int sign : new int[] {0, 3, 200, 255, END}) {
            changesNothing("cost(0, " + sign + "), cost(1, " + sign + ")",
                x -> x.cost(0, sign) + x.cost(1, sign));
        }
    }
}
