/** The boundary cases of the Terms: trees, contexts, spans, bits, reading and its faults. */
public final class EdgesOfTermsTest extends Edges {
    private static final String PASSED = "if there are none, it is passed";
    private static final String FOUND_SPAN =
        "told is the span from the sum of the COUNTS of those with lesser bytes, as long as its COUNT, of s + n";
    private static final String ESCAPE = "told is the span from s, n long, of s + n (an ESCAPE)";
    private static final String FLAT = "of all SIGNS that are not EXCLUDED, m of them, rising, END the last one";
    private static final String LEARNS =
        "in the CONTEXTS from that in which it was FOUND (FLAT: 0) up to the greatest one";
    private static final String RESTARTS = "but if there are ROOM NODES (the ROOT, too), THE MODEL RESTARTS";
    private static final String ALONE =
        "the ROOT is alone, there are no LATEST bytes, and nothing more is learned of this byte";
    private static final String HALVED = "When the COUNTS of the children are more than 200 together then, "
        + "each COUNT c of these becomes (c + 1) / 2, cut";
    private static final String ELDEST_GOES = "(the eldest goes, when there are more than ORDER)";
    private static final String HIGH_BELOW_HALF = "if high is below 32768, a 0 is put";
    private static final String LOW_IN_UPPER_HALF = "else if low is 32768 or more, a 1";
    private static final String HELD = "else if low is 16384 or more and high below 49152, HELD becomes 1 more";
    private static final String BEHIND_END =
        "Behind END: HELD becomes 1 more, and 0 is put, if low is below 16384, else 1";
    private static final String FAULT_1 = "FAULTS, ahead of a SIGN: 1, if more than 16 BITS behind the end were taken";
    private static final String FAULT_2 = "of a byte: 2, if 300 are received";
    private static final String FAULT_3 = "behind END: 3, if OUT is not what THE READER'S MODEL";

    private EdgesOfTermsTest() {
    }

    public static void main(String[] args) throws Exception {
        run(EdgesOfTermsTest.class, Edge.TERMS, Edge.TERMS);
    }

    private static void addRising(PpmTrees x, int from, int to) {
        for (int b = from; b <= to; b++) {
            x.add(b);
        }
    }

    // ---- trees

    @Edge(of = Edge.TERMS, says = "At first the ROOT is alone.")
    static void rootIsAloneAtFirst() {
        is("the writer's model", Asked.model(fresh(), 0), "-1/-1/0/0|");
        is("the reader's model", Asked.model(fresh(), 1), "-1/-1/0/0|");
    }

    @Edge(of = Edge.TERMS, says = "the children of a NODE have different bytes")
    static void sameByteHasOneNode() {
        is("the tree", Asked.tree(Asked.packed(0, 8, 9, 9, 9), 0), "-1/-1/0/0 0/9/3/1");
    }

    @Edge(of = Edge.TERMS, says = "NODES have numbers as they came")
    static void laterNodesOfLesserBytesHaveGreaterNumbers() {
        is("the tree", Asked.tree(Asked.packed(0, 8, 9, 255, 5, 0), 0),
            "-1/-1/0/0 0/9/1/1 0/255/1/1 0/5/1/1 0/0/1/1");
    }

    @Edge(of = Edge.TERMS, says = "(since the ROOT was alone)")
    static void numbersBeginAnewBehindARestart() {
        is("the tree", Asked.tree(Asked.packed(0, 8, 1, 2, 3, 4, 5, 6, 7, 8, 9, 3), 0),
            "-1/-1/0/0 0/9/1/1 0/3/1/1");
    }

    @Edge(of = Edge.TERMS, says = "by the last k of them, the eldest first")
    static void contextsGoFromTheEldest() {
        // 3 comes to the root, behind 2, and behind 1, 2: the child 2 of 1.
        is("the tree", Asked.tree(Asked.packed(2, 50, 1, 2, 3), 0),
            "-1/-1/0/0 0/1/1/1 0/2/1/1 1/2/1/2 0/3/1/1 2/3/1/2 3/3/1/3");
    }

    @Edge(of = Edge.TERMS, says = "from 0 to how many LATEST bytes there are")
    static void contextsAreFewerThanOrderAtFirst() {
        is("SIGNS", Asked.signs(Asked.packed(4, 50, 7, 7, 7)), "0/-3 0/0 0/1 1/-3");
    }

    // ---- what is told

    @Edge(of = Edge.TERMS, says = PASSED)
    static void rootWithoutChildrenIsPassed() {
        PpmTrees x = Asked.packed(0, 8, 7);
        is("sign(0, 0)", x.sign(0, 0), 0);
        is("ESCAPES: of END alone", x.told(1), 1);
    }

    @Edge(of = Edge.TERMS, says = PASSED)
    static void contextWithoutChildrenIsPassed() {
        PpmTrees x = Asked.packed(1, 50, 7, 8);
        is("SIGNS", Asked.signs(x), "0/-3 1/-3 2/-3");
        is("ESCAPES: of 8 and END in context 0", x.told(1), 2);
    }

    @Edge(of = Edge.TERMS, says = PASSED)
    static void contextWithExcludedChildrenAloneIsPassed() {
        PpmTrees x = Asked.packed(1, 50, 7, 7);
        is("SIGNS", Asked.signs(x), "0/-3 0/0 1/-3");
        is("ESCAPES: of END in context 1", x.told(1), 1);
    }

    @Edge(of = Edge.TERMS, says = "of those of its children whose bytes are not EXCLUDED")
    static void excludedChildrenAreNotCounted() {
        PpmTrees x = Asked.packed(1, 50, 'a', 'b', 'a', 'b', 'a', 'c', 'a');
        // Behind a: b has 2 and c 1 of 5; then in context 0 a has 3 of 4, and nothing else is left.
        is("cost of a: 2 of 5, 3 of 4", x.cost(0, 'a'), 3);
        is("cost of END: 2 of 5, 1 of 4, 1 of 254", x.cost(0, END), 12);
    }

    @Edge(of = Edge.TERMS, says = "from the greatest CONTEXT down to CONTEXT 0")
    static void greatestContextComesFirst() {
        PpmTrees x = Asked.packed(2, 100, 'a', 'b', 'c', 'a', 'b', 'c', 'a', 'x', 'b', 'c', 'b');
        is("SIGNS", Asked.signs(x), "0/-3 1/-3 2/-3 0/0 0/1 0/2 0/2 3/-3 0/0 0/1 1/0 4/-3");
    }

    /** What a writer of order 0 that has told some bytes before writes of a text then. */
    private static void written(int[] known, int[] text, String out, int bits) {
        PpmTrees x = new PpmTrees(0, 1500);
        Asked.addAll(x, known);
        x.pack();
        is("open() of what is known", x.open(), known.length);
        x.clear();
        Asked.addAll(x, text);
        x.pack();
        is("OUT", Asked.row(x, 1), out);
        is("BITS", x.told(0), bits);
        is("open()", x.open(), text.length);
        is("THE RECEIVED", Asked.row(x, 2), Asked.row(x, 0));
    }

    private static int[] rising(int from, int to) {
        int[] all = new int[to - from + 1];
        for (int i = 0; i < all.length; i++) {
            all[i] = from + i;
        }
        return all;
    }

    private static final int[] NONE = {};
    private static final int[] TWO_AND_FOUR = {5, 5, 9, 9, 9, 9};

    @Edge(of = Edge.TERMS, says = FOUND_SPAN)
    static void leastByteIsFound() {
        // From 0, 2 long, of 8: 00.
        written(TWO_AND_FOUR, new int[] {5}, "63 244", 14);
    }

    @Edge(of = Edge.TERMS, says = FOUND_SPAN)
    static void byteBetweenOthersIsFound() {
        // From 1, 2 long, of 8: low 8192, high 24575.
        written(new int[] {5, 7, 7, 9, 9}, new int[] {7}, "95 240", 13);
    }

    @Edge(of = Edge.TERMS, says = FOUND_SPAN)
    static void greatestByteIsFound() {
        // From 2, 4 long, of 8: low 16384, high 49151.
        written(TWO_AND_FOUR, new int[] {9}, "191 232", 13);
    }

    @Edge(of = Edge.TERMS, says = ESCAPE)
    static void escapeIsTheLastSpan() {
        // From 6, 2 long, of 8: 11; then END, the last of 255.
        written(TWO_AND_FOUR, NONE, "255 192", 11);
    }

    @Edge(of = Edge.TERMS, says = "and all these bytes are EXCLUDED")
    static void escapeExcludesAllChildren() {
        PpmTrees x = Asked.packed(1, 50, 7, 8, 7, 9, 7);
        // Behind 7 came 8 and 9: both are EXCLUDED, then 7 in context 0.
        is("sign(5, 0)", x.sign(5, 0), 3);
        is("ESCAPES of 8, 9 and END: 1, 2 and 2", x.told(1), 5);
    }

    @Edge(of = Edge.TERMS, says = FLAT)
    static void flatOfTheLeastSign() {
        written(NONE, new int[] {0}, "0 254 160", 19);
    }

    @Edge(of = Edge.TERMS, says = FLAT)
    static void flatOfTheGreatestByte() {
        written(NONE, new int[] {255}, "254 255 160", 19);
    }

    @Edge(of = Edge.TERMS, says = FLAT)
    static void flatOfEnd() {
        written(NONE, NONE, "255 64", 10);
    }

    @Edge(of = Edge.TERMS, says = FLAT)
    static void flatWithoutTheLeastSign() {
        // 1 is the first of 256 then: an ESCAPE is 1, and 00000000 comes behind it.
        written(new int[] {0}, new int[] {1}, "128 127 192", 19);
    }

    @Edge(of = Edge.TERMS, says = FLAT)
    static void flatAroundAnExcludedSign() {
        written(new int[] {7}, new int[] {6}, "131 127 192", 19);
        written(new int[] {7}, new int[] {8}, "131 255 192", 19);
    }

    @Edge(of = Edge.TERMS, says = FLAT)
    static void flatOfTwoSigns() {
        written(rising(0, 254), new int[] {255}, "168", 5);
        written(rising(0, 254), NONE, "208", 4);
        written(rising(1, 255), new int[] {0}, "168", 5);
    }

    @Edge(of = Edge.TERMS, says = FLAT)
    static void flatOfEndAlone() {
        // The span of END is all there is: nothing is put for it.
        written(rising(0, 255), NONE, "160", 3);
    }

    // ---- learning

    @Edge(of = Edge.TERMS, says = "Behind a byte (not END) THE MODEL LEARNS it")
    static void endIsNotLearned() {
        PpmTrees x = Asked.packed(1, 50, 7);
        String model = Asked.model(x, 0);
        x.clear();
        x.pack();
        is("the model", Asked.model(x, 0), model);
        is("latest(0, 0)", x.latest(0, 0), 7);
    }

    @Edge(of = Edge.TERMS, says = LEARNS)
    static void flatByteIsLearnedInAllContexts() {
        is("the tree", Asked.tree(Asked.packed(1, 50, 7, 8), 0),
            "-1/-1/0/0 0/7/1/1 0/8/1/1 1/8/1/2");
    }

    @Edge(of = Edge.TERMS, says = LEARNS)
    static void byteFoundInContext0IsLearnedInAll() {
        is("the tree", Asked.tree(Asked.packed(1, 50, 7, 8, 8), 0),
            "-1/-1/0/0 0/7/1/1 0/8/2/1 1/8/1/2 2/8/1/2");
    }

    @Edge(of = Edge.TERMS, says = LEARNS)
    static void byteFoundBetweenIsNotLearnedBelow() {
        // The second 2 is found behind 1: there it counts, and behind 3, 1 it is new.
        is("the tree", Asked.tree(Asked.packed(2, 50, 1, 2, 3, 1, 2), 0),
            "-1/-1/0/0 0/1/2/1 0/2/1/1 1/2/2/2 0/3/1/1 2/3/1/2 3/3/1/3 4/1/1/2 5/1/1/3 7/2/1/3");
    }

    @Edge(of = Edge.TERMS, says = LEARNS)
    static void byteFoundInTheGreatestContextIsLearnedThereAlone() {
        is("the tree", Asked.tree(Asked.packed(4, 50, 1, 1, 1, 1, 1, 1, 1), 0),
            "-1/-1/0/0 0/1/2/1 1/1/2/2 2/1/2/3 3/1/2/4 4/1/3/5");
    }

    @Edge(of = Edge.TERMS, says = RESTARTS)
    static void roomIsFilledWithoutARestart() {
        PpmTrees x = Asked.packed(1, 8, 1, 2, 3, 4);
        is("nodes(0)", x.nodes(0), 8);
        is("restarted(0)", x.restarted(0), 0);
        is("the latest", Asked.latest(x, 0), "4");
    }

    @Edge(of = Edge.TERMS, says = RESTARTS)
    static void oneNodeMoreThanRoomRestarts() {
        PpmTrees x = Asked.packed(1, 8, 1, 2, 3, 4, 5);
        is("the model", Asked.model(x, 0), "-1/-1/0/0|");
        is("restarted(0)", x.restarted(0), 1);
    }

    @Edge(of = Edge.TERMS, says = RESTARTS)
    static void knownBytesNeedNoRoom() {
        // The eighth node is that of 2 behind 3; what comes then was there before.
        PpmTrees x = Asked.packed(1, 8, 1, 2, 3, 1, 2, 3, 2, 3, 1);
        is("nodes(0)", x.nodes(0), 8);
        is("restarted(0)", x.restarted(0), 0);
        is("the tree", Asked.tree(x, 0),
            "-1/-1/0/0 0/1/2/1 0/2/2/1 1/2/2/2 0/3/1/1 2/3/3/2 4/1/2/2 4/2/1/2");
    }

    @Edge(of = Edge.TERMS, says = ALONE)
    static void restartInTheMidstOfContexts() {
        // 5 gets the ninth node in context 0; in context 1 there is no room for it.
        PpmTrees x = Asked.packed(1, 9, 1, 2, 3, 4, 5);
        is("the model", Asked.model(x, 0), "-1/-1/0/0|");
        is("restarted(0)", x.restarted(0), 1);
    }

    @Edge(of = Edge.TERMS, says = ALONE)
    static void restartBehindACountThatRose() {
        // 1 is found in context 0, and counts; behind 4 there is no room for it.
        PpmTrees x = Asked.packed(1, 8, 1, 2, 3, 4, 1);
        is("the model", Asked.model(x, 0), "-1/-1/0/0|");
        is("restarted(0)", x.restarted(0), 1);
    }

    @Edge(of = Edge.TERMS, says = ALONE)
    static void byteBehindARestartComesAlone() {
        PpmTrees x = Asked.packed(1, 8, 1, 2, 3, 4, 5, 6, 7);
        is("SIGNS", Asked.signs(x), "0/-3 1/-3 2/-3 3/-3 4/-3 0/-3 1/-3 2/-3");
        is("the model", Asked.model(x, 0), "-1/-1/0/0 0/6/1/1 0/7/1/1 1/7/1/2|7");
        is("open()", x.open(), 7);
        is("equal()", x.equal(), 1);
    }

    @Edge(of = Edge.TERMS, says = ALONE)
    static void endBehindARestartIsFlat() {
        PpmTrees x = Asked.packed(1, 8, 1, 2, 3, 4, 5);
        is("sign(5, 0)", x.sign(5, 0), 0);
        is("sign(5, 1)", x.sign(5, 1), NO);
        is("cost(0, END)", x.cost(0, END), 9);
    }

    @Edge(of = Edge.TERMS, says = HALVED)
    static void countsOf200Stay() {
        PpmTrees x = new PpmTrees(0, 8);
        Asked.addRepeated(x, 7, 200);
        x.pack();
        is("the tree", Asked.tree(x, 0), "-1/-1/0/0 0/7/200/1");
    }

    @Edge(of = Edge.TERMS, says = HALVED)
    static void countsOf201AreHalved() {
        PpmTrees x = new PpmTrees(0, 8);
        Asked.addRepeated(x, 7, 201);
        x.pack();
        is("the tree", Asked.tree(x, 0), "-1/-1/0/0 0/7/101/1");
        is("open()", x.open(), 201);
        is("equal()", x.equal(), 1);
    }

    @Edge(of = Edge.TERMS, says = HALVED)
    static void oddAndEvenCountsAreHalved() {
        PpmTrees x = new PpmTrees(0, 8);
        Asked.addRepeated(x, 7, 198);
        Asked.addRepeated(x, 3, 3);
        x.pack();
        is("the tree", Asked.tree(x, 0), "-1/-1/0/0 0/7/99/1 0/3/2/1");
    }

    @Edge(of = Edge.TERMS, says = HALVED)
    static void countOf1Stays1() {
        PpmTrees x = new PpmTrees(0, 8);
        x.add(3);
        Asked.addRepeated(x, 7, 200);
        x.pack();
        is("the tree", Asked.tree(x, 0), "-1/-1/0/0 0/3/1/1 0/7/100/1");
    }

    @Edge(of = Edge.TERMS, says = HALVED)
    static void countsAreHalvedForANewNode() {
        PpmTrees x = new PpmTrees(0, 8);
        Asked.addRepeated(x, 7, 198);
        Asked.addAll(x, 3, 3, 5);
        x.pack();
        is("the tree", Asked.tree(x, 0), "-1/-1/0/0 0/7/99/1 0/3/1/1 0/5/1/1");
    }

    @Edge(of = Edge.TERMS, says = HALVED)
    static void countsOfOneContextAreHalvedAlone() {
        PpmTrees x = new PpmTrees(1, 8);
        Asked.addRepeated(x, 7, 202);
        x.pack();
        is("200 behind 7 stay", Asked.tree(x, 0), "-1/-1/0/0 0/7/2/1 1/7/101/2");
    }

    @Edge(of = Edge.TERMS, says = HALVED)
    static void countsOfChildrensChildrenStay() {
        PpmTrees x = new PpmTrees(1, 1500);
        Asked.addAll(x, 7, 7, 7);
        addRising(x, 8, 205);
        x.pack();
        is("200 in context 0: the count of 7", Asked.node(x, 0, 1, 2), 2);
        x.clear();
        x.add(206);
        x.pack();
        is("201 in context 0: the count of 7", Asked.node(x, 0, 1, 2), 1);
        is("the count of 7 behind 7", Asked.node(x, 0, 2, 2), 2);
    }

    @Edge(of = Edge.TERMS, says = HALVED)
    static void countsOf256ChildrenStay1() {
        PpmTrees x = new PpmTrees(0, 1500);
        addRising(x, 0, 255);
        Asked.addAll(x, 5, 5);
        x.pack();
        is("the count of 5", Asked.node(x, 0, 6, 2), 1);
        is("the count of 255", Asked.node(x, 0, 256, 2), 1);
        is("open()", x.open(), 258);
    }

    @Edge(of = Edge.TERMS, says = ELDEST_GOES)
    static void latestAreOrderAtMost() {
        PpmTrees x = new PpmTrees(2, 50);
        String[] due = {"1", "1 2", "2 3", "3 4"};
        for (int b = 1; b <= 4; b++) {
            x.clear();
            x.add(b);
            x.pack();
            is("the latest behind " + b, Asked.latest(x, 0), due[b - 1]);
        }
    }

    @Edge(of = Edge.TERMS, says = ELDEST_GOES)
    static void latestOfOrder0AreNone() {
        PpmTrees x = Asked.packed(0, 50, 1, 2);
        x.open();
        is("the writer's latest", Asked.latest(x, 0), "");
        is("the reader's latest", Asked.latest(x, 1), "");
    }

    // ---- bits

    @Edge(of = Edge.TERMS, says = HIGH_BELOW_HALF)
    static void highIs32767() {
        // 7 is known once: its span is 1 of 2, from 0.
        written(new int[] {7}, new int[] {7}, "127 224", 12);
        written(NONE, new int[] {1}, "1 253 160", 19);
    }

    @Edge(of = Edge.TERMS, says = HIGH_BELOW_HALF)
    static void highIs32768() {
        // The span of 253 is 32641 to 32768: what is put of it is HELD for long.
        written(NONE, new int[] {254, 253}, "254 0 0 192", 27);
    }

    @Edge(of = Edge.TERMS, says = LOW_IN_UPPER_HALF)
    static void lowIs32768() {
        // 7 is known once: the ESCAPE is 1 of 2, from 1.
        written(new int[] {7}, NONE, "255 160", 11);
        written(NONE, new int[] {215, 136}, "214 236 186 208", 28);
    }

    @Edge(of = Edge.TERMS, says = LOW_IN_UPPER_HALF)
    static void lowIs32767() {
        // The span of 1 is 32767 to 32894.
        written(NONE, new int[] {0, 2, 0, 1}, "0 128 18 63 204", 39);
    }

    @Edge(of = Edge.TERMS, says = HELD)
    static void lowIs16384AndHighIs49151() {
        written(NONE, new int[] {231, 191, 195}, "230 248 16 240 160", 36);
    }

    @Edge(of = Edge.TERMS, says = HELD)
    static void lowIs16383AndHighBelow49152() {
        written(NONE, new int[] {238, 238, 238, 238, 238, 238, 54, 238, 238, 238, 238, 238, 54, 54, 54},
            "237 55 183 0 134 208", 45);
    }

    @Edge(of = Edge.TERMS, says = HELD)
    static void highIs49151() {
        // Low is 16512 there.
        written(NONE, new int[] {191, 233}, "191 52 139 80", 28);
    }

    @Edge(of = Edge.TERMS, says = HELD)
    static void highIs49152() {
        // Low is 16560 there: that is all, nothing is HELD.
        written(NONE, new int[] {7, 7, 7, 7, 7, 7, 214, 214, 7, 7, 7, 214, 7, 7, 7}, "7 34 127 10 255 224", 43);
    }

    @Edge(of = Edge.TERMS, says = BEHIND_END)
    static void lowBehindEndIs0() {
        written(NONE, new int[] {28}, "28 226 160", 19);
    }

    @Edge(of = Edge.TERMS, says = BEHIND_END)
    static void lowBehindEndIs16384() {
        written(NONE, new int[] {217, 237, 191, 73, 32, 237}, "217 28 121 56 242 14 39 128", 58);
    }

    @Edge(of = Edge.TERMS, says = BEHIND_END)
    static void bitsAreHeldBehindEnd() {
        // Low is 2816 and three are HELD; low is 16896 and four are.
        written(NONE, new int[] {12, 38, 38, 12, 38}, "12 134 17 67 192", 34);
        written(NONE, new int[] {165, 55, 165, 165, 55}, "164 246 12 136 0", 34);
    }

    @Edge(of = Edge.TERMS, says = "the last byte is filled with 0s")
    static void lastByteHasOneBit() {
        written(NONE, new int[] {224, 224, 224, 199, 199}, "223 112 72 74 0", 33);
        written(NONE, new int[] {108, 108, 90, 198, 198}, "107 248 23 154 200 128", 41);
    }

    @Edge(of = Edge.TERMS, says = "the last byte is filled with 0s")
    static void lastByteHasSevenBits() {
        written(NONE, new int[] {76, 236, 236, 236}, "76 168 189 48", 31);
    }

    @Edge(of = Edge.TERMS, says = "the last byte is filled with 0s")
    static void lastByteHasEightBits() {
        written(NONE, new int[] {1, 0, 1, 0}, "1 126 166 24", 32);
    }

    // ---- reading

    @Edge(of = Edge.TERMS, says = "0s behind the end of OUT, here and below")
    static void zerosAreReadBehindTheEnd() {
        // All that is read of 223 112 72 74 0 is read without the 0, too: it is END there.
        PpmTrees x = withOut(0, 50, 223, 112, 72, 74);
        is("open()", x.open(), -13);
        is("place()", x.place(), 4);
        x = withOut(0, 50, 223, 112, 72, 74, 0);
        is("open() of all", x.open(), 5);
        is("THE RECEIVED", Asked.row(x, 2), "224 224 224 199 199");
    }

    @Edge(of = Edge.TERMS, says = "a number has the first 16 BITS (0s behind the end of OUT")
    static void zerosAreReadInTheFirst16Bits() {
        // OUT has 8 bits; the number is 255 and eight 0s, which lies in END's span.
        PpmTrees x = withOut(2, 50, 255);
        is("open()", x.open(), -13);
        is("place()", x.place(), 1);
    }

    @Edge(of = Edge.TERMS, says = FAULT_1)
    static void sixteenBitsBehindTheEndAreNotTooMany() {
        PpmTrees x = readerOf(187, 84, 129, 93);
        is("open()", x.open(), -13);
        is("place()", x.place(), 3);
    }

    @Edge(of = Edge.TERMS, says = FAULT_1)
    static void seventeenBitsBehindTheEndAreTooMany() {
        // It would be END next, but ahead of it 17 were taken.
        is("open()", readerOf(235, 137).open(), -11);
    }

    /** A reader of order 0 that has read so many 7s, and an OUT of two bytes. */
    private static PpmTrees readerOf7s(int many) {
        PpmTrees x = new PpmTrees(0, 8);
        Asked.addRepeated(x, 7, many);
        x.pack();
        is("open() of 7s", x.open(), many);
        x.cut(2);
        x.alter(0, 33);
        x.alter(1, 0);
        return x;
    }

    @Edge(of = Edge.TERMS, says = FAULT_1)
    static void seventeenBitsBehindTheEndAheadOfByte301() {
        // 300 bytes are received when the 17th bit is taken: that is seen ahead of the next one.
        is("open()", readerOf7s(103).open(), -11);
    }

    @Edge(of = Edge.TERMS, says = FAULT_2)
    static void sixteenBitsBehindTheEndAheadOfByte301() {
        is("open()", readerOf7s(104).open(), -12);
    }

    @Edge(of = Edge.TERMS, says = FAULT_2)
    static void endBehind300BytesIsNoFault() {
        is("open()", withOut(0, 8, 6, 249, 163, 113, 64).open(), 300);
    }

    @Edge(of = Edge.TERMS, says = FAULT_2)
    static void byte301IsAFault() {
        is("open()", withOut(0, 8, 6, 249, 162, 159, 128).open(), -12);
    }

    @Edge(of = Edge.TERMS, says = FAULT_3)
    static void endBehind300BytesThatIsNotAsWritten() {
        // Of a byte more, 300 bytes and END are read all the same.
        PpmTrees x = withOut(0, 8, 6, 249, 163, 113, 64, 0);
        is("open()", x.open(), -13);
        is("place()", x.place(), 5);
    }

    @Edge(of = Edge.TERMS, says = FAULT_3)
    static void oneBitBehindTheLastIsAFault() {
        is("open() of what is written", withOut(0, 50, 28, 226, 160).open(), 1);
        is("open() of another last bit", withOut(0, 50, 28, 226, 161).open(), -13);
    }

    @Edge(of = Edge.TERMS, says = FAULT_3)
    static void readerIsTheWriterOfItsOwnModel() {
        // What the writer wrote is right by the reader's model alone, whatever the writer's is.
        PpmTrees x = Asked.packed(0, 50, 28);
        x.reset(0);
        is("open()", x.open(), 1);
        x.pack();
        // Written as at first, but the reader knows 28: what it reads is another text.
        holds("open() is a fault", x.open() < -10);
    }

    // ---- refusals, and the last call

    @Edge(of = Edge.TERMS, says = "REFUSALS change nothing")
    static void manyRefusalsChangeNothing() {
        changesNothing("one refusal of each call", x -> x.add(256) + x.fill(0, 1, 4) + x.size(3)
            + x.octet(3, 0) + x.alter(9, 9) + x.cut(10) + x.told(3) + x.sign(9, 2) + x.nodes(2)
            + x.node(2, 0, 0) + Asked.node(x, 0, 6, 0) + x.latest(2, 0) + x.restarted(2) + x.reset(2)
            + x.save(2) + x.restore(2, 0) + x.cost(2, 257));
    }

    @Edge(of = Edge.TERMS, says = "An object is used for at most 512 calls after it has been made")
    static void call512IsAnsweredLikeTheOthers() {
        PpmTrees x = new PpmTrees(4, 1500);
        x.fill(300, 5, 0);
        for (int i = 0; i < 255; i++) {
            x.pack();
            x.open();
        }
        is("equal() as call 512", x.equal(), 1);
    }
}
