/** The boundary cases of promises 9 to 13: saying a text, and what is told of it. */
public final class EdgesOfSayingTest extends Edges {
    private static final String OUT_IS_THAT = "OUT is that (THE TEXT stays): how many bytes";
    private static final String RECEIVED_IS_THAT = "THE RECEIVED is that: how many bytes";
    private static final String AS_BEFORE = "its MODEL, THE RECEIVED are as before then";
    private static final String SHOULD_BE = "the first byte of OUT that is not as it should be";
    private static final String NO_PLACE = "NO: it had none, or another FAULT, or none was asked";
    private static final String EXCLUDED = "how many SIGNS were EXCLUDED when it was told";
    private static final String FOUND = "the CONTEXT (its k) in which it was FOUND; NO: FLAT";
    private static final String NO_SIGN = "BAD: also no such SIGN";

    private EdgesOfSayingTest() {
    }

    public static void main(String[] args) throws Exception {
        run(EdgesOfSayingTest.class, 9, 13);
    }

    // ---- promise 9

    @Edge(of = 9, says = OUT_IS_THAT)
    static void packOfNoBytes() {
        PpmTrees x = fresh();
        // END is the span from 256, 1 long, of 257: low 65280, high 65535; eight 1s, then 01.
        is("pack()", x.pack(), 2);
        is("OUT", Asked.row(x, 1), "255 64");
    }

    @Edge(of = 9, says = "learning each, then END")
    static void packOfNoBytesLearnsNothing() {
        PpmTrees x = fresh();
        x.pack();
        is("the model", Asked.model(x, 0), "-1/-1/0/0|");
        x = rich();
        String before = Asked.model(x, 0) + x.restarted(0);
        x.clear();
        x.pack();
        is("a rich model", Asked.model(x, 0) + x.restarted(0), before);
    }

    @Edge(of = 9, says = OUT_IS_THAT)
    static void packOfTheLeastByte() {
        PpmTrees x = Asked.packed(0, 8, 0);
        is("OUT", Asked.row(x, 1), "0 254 160");
        is("open()", x.open(), 1);
        is("THE RECEIVED", Asked.row(x, 2), "0");
    }

    @Edge(of = 9, says = OUT_IS_THAT)
    static void packOfTheGreatestByte() {
        PpmTrees x = Asked.packed(0, 8, 255);
        is("OUT", Asked.row(x, 1), "254 255 160");
        is("open()", x.open(), 1);
        is("THE RECEIVED", Asked.row(x, 2), "255");
    }

    @Edge(of = 9, says = OUT_IS_THAT)
    static void packOf300Bytes() {
        PpmTrees x = new PpmTrees(0, 8);
        Asked.addRepeated(x, 7, 300);
        is("pack()", x.pack(), 5);
        is("OUT", Asked.row(x, 1), "6 249 163 113 64");
    }

    @Edge(of = 9, says = OUT_IS_THAT)
    static void packOfMoreBytesThanTheText() {
        PpmTrees x = new PpmTrees(2, 8);
        x.fill(300, 12345, 0);
        int packed = x.pack();
        holds("OUT has more than 300 bytes", packed > 300);
        is("size(1)", x.size(1), packed);
        is("bytes of BITS", packed, (x.told(0) + 7) / 8);
        is("open()", x.open(), 300);
        is("THE RECEIVED", Asked.row(x, 2), Asked.row(x, 0));
    }

    @Edge(of = 9, says = OUT_IS_THAT)
    static void packOfFewerBytesThanBefore() {
        PpmTrees x = fresh();
        x.fill(30, 3, 0);
        x.pack();
        x.reset(0);
        x.clear();
        is("pack()", x.pack(), 2);
        is("OUT", Asked.row(x, 1), "255 64");
    }

    @Edge(of = 9, says = OUT_IS_THAT)
    static void packOverAnAlteredOut() {
        PpmTrees x = fresh();
        x.fill(30, 3, 0);
        x.pack();
        String out = Asked.row(x, 1);
        for (int i = 0; i < x.size(1); i++) {
            x.alter(i, 255);
        }
        x.reset(0);
        x.pack();
        is("OUT", Asked.row(x, 1), out);
    }

    @Edge(of = 9, says = OUT_IS_THAT)
    static void packOverACutOut() {
        PpmTrees x = fresh();
        x.fill(30, 3, 0);
        x.pack();
        String out = Asked.row(x, 1);
        x.cut(0);
        x.reset(0);
        x.pack();
        is("OUT", Asked.row(x, 1), out);
    }

    @Edge(of = 9, says = "THE TEXT stays")
    static void packLeavesTheTextAndTheReader() {
        PpmTrees x = rich();
        String before = Asked.row(x, 0) + "|" + Asked.end(x, 1) + "|" + x.place();
        x.pack();
        is("all but the writer", Asked.row(x, 0) + "|" + Asked.end(x, 1) + "|" + x.place(), before);
        is("forget()", x.forget(), 2);
    }

    @Edge(of = 9, says = "THE TEXT stays")
    static void packOfTheSameTextAgain() {
        PpmTrees x = Asked.packed(0, 8, 7);
        // The model knows 7 once: 0 tells it, and what is left is END behind an ESCAPE.
        is("pack()", x.pack(), 2);
        is("OUT", Asked.row(x, 1), "127 224");
    }

    // ---- promise 10

    @Edge(of = 10, says = "-10 less the FAULT")
    static void openOfNoOut() {
        PpmTrees x = fresh();
        is("open()", x.open(), -11);
        is("size(2)", x.size(2), 0);
        is("the model", Asked.model(x, 1), "-1/-1/0/0|");
    }

    @Edge(of = 10, says = RECEIVED_IS_THAT)
    static void openOfNoBytes() {
        PpmTrees x = withOut(2, 50, 255, 64);
        is("open()", x.open(), 0);
        is("size(2)", x.size(2), 0);
    }

    @Edge(of = 10, says = RECEIVED_IS_THAT)
    static void openOfFewerBytesThanBefore() {
        PpmTrees x = Asked.packed(2, 50, 5, 6, 7);
        is("open() of three", x.open(), 3);
        x.clear();
        x.add(9);
        x.pack();
        is("open() of one", x.open(), 1);
        is("THE RECEIVED", Asked.row(x, 2), "9");
        x.clear();
        x.pack();
        is("open() of none", x.open(), 0);
        is("THE RECEIVED of none", Asked.row(x, 2), "");
    }

    @Edge(of = 10, says = RECEIVED_IS_THAT)
    static void openOf300Bytes() {
        // What a writer that knows nothing, of order 0, would write of 7, 300 times.
        PpmTrees x = withOut(0, 8, 6, 249, 163, 113, 64);
        is("open()", x.open(), 300);
        is("octet(2, 299)", x.octet(2, 299), 7);
        is("octet(2, 300)", x.octet(2, 300), BAD);
    }

    @Edge(of = 10, says = "-10 less the FAULT")
    static void openOf301Bytes() {
        // The same, 301 times.
        PpmTrees x = withOut(0, 8, 6, 249, 162, 159, 128);
        is("open()", x.open(), -12);
        is("size(2)", x.size(2), 0);
    }

    @Edge(of = 10, says = RECEIVED_IS_THAT)
    static void openLeavesTheTextAndTheWriter() {
        PpmTrees x = Asked.packed(2, 9, 1, 2, 3, 1, 2, 4, 4);
        x.save(0);
        x.clear();
        x.add(200);
        String before = Asked.row(x, 0) + "|" + Asked.packing(x) + "|" + Asked.end(x, 0);
        is("open()", x.open(), 7);
        is("all but the reader", Asked.row(x, 0) + "|" + Asked.packing(x) + "|" + Asked.end(x, 0), before);
        is("forget()", x.forget(), 1);
    }

    @Edge(of = 10, says = "THE READER reads OUT, learning each byte")
    static void openOfTheSameOutAgain() {
        PpmTrees x = Asked.packed(0, 8, 7);
        is("open()", x.open(), 1);
        // By what was learned, the same bits tell 7 many times, and no END.
        is("open() again", x.open(), -11);
        x.reset(1);
        is("open() as at first", x.open(), 1);
    }

    /** A reader that has restarted, has received, and knows something. */
    private static PpmTrees restartedReader() {
        PpmTrees x = new PpmTrees(1, 8);
        x.fill(40, 3, 0);
        x.add(1);
        x.add(2);
        x.pack();
        is("open() of 42", x.open(), 42);
        holds("it restarted", x.restarted(1) > 0);
        holds("it knows something", x.nodes(1) > 1 && x.latest(1, 0) >= 0);
        return x;
    }

    /** The same, with an OUT of so many bytes that the model restarts again while it is read. */
    private static PpmTrees restartingReader() {
        PpmTrees x = restartedReader();
        x.fill(60, 8, 0);
        x.pack();
        return x;
    }

    private static void faultLeavesTheReader(PpmTrees x, int answer) {
        String before = Asked.row(x, 0) + "|" + Asked.packing(x) + "|" + Asked.end(x, 0) + "|"
            + Asked.end(x, 1);
        is("open()", x.open(), answer);
        is("all behind the fault", Asked.row(x, 0) + "|" + Asked.packing(x) + "|" + Asked.end(x, 0)
            + "|" + Asked.end(x, 1), before);
    }

    @Edge(of = 10, says = AS_BEFORE)
    static void fault1LeavesTheReader() {
        PpmTrees x = restartingReader();
        x.cut(x.size(1) - 4);
        faultLeavesTheReader(x, -11);
    }

    @Edge(of = 10, says = AS_BEFORE)
    static void fault2LeavesTheReader() {
        PpmTrees x = restartedReader();
        // Bytes that restart the model, then so many 7s that no more than 300 can be received.
        x.clear();
        x.fill(30, 8, 0);
        Asked.addRepeated(x, 7, 270);
        x.pack();
        for (int i = x.size(1) - 3; i < x.size(1); i++) {
            x.alter(i, 0);
        }
        faultLeavesTheReader(x, -12);
    }

    @Edge(of = 10, says = AS_BEFORE)
    static void fault3LeavesTheReader() {
        PpmTrees x = restartingReader();
        holds("the last bit is not of the text", x.told(0) % 8 != 0);
        int last = x.size(1) - 1;
        x.alter(last, x.octet(1, last) ^ 1);
        faultLeavesTheReader(x, -13);
    }

    @Edge(of = 10, says = AS_BEFORE)
    static void openBehindAFaultWithHeldBits() {
        PpmTrees x = Asked.packed(0, 50, 187);
        x.cut(1);
        // It ends while bits are HELD; the next one begins with none.
        is("open() of a cut OUT", x.open(), -11);
        x.reset(0);
        x.pack();
        is("open()", x.open(), 1);
        is("THE RECEIVED", Asked.row(x, 2), "187");
    }

    @Edge(of = 10, says = AS_BEFORE)
    static void openBehindEachFault() {
        PpmTrees x = restartingReader();
        int size = x.size(1);
        String out = Asked.row(x, 1);
        int last = x.octet(1, size - 1);
        x.alter(size - 1, last ^ 1);
        is("open() with fault 3", x.open(), -13);
        x.alter(size - 1, last);
        is("OUT", Asked.row(x, 1), out);
        is("open()", x.open(), 102);
        is("THE RECEIVED", Asked.row(x, 2), Asked.row(x, 0));
        is("equal()", x.equal(), 1);
        is("restarted(1)", x.restarted(1), x.restarted(0));
    }

    // ---- promise 11

    private static void placeOf(PpmTrees x, int place) {
        is("open()", x.open(), -13);
        is("place()", x.place(), place);
    }

    @Edge(of = 11, says = SHOULD_BE)
    static void placeIsTheFirstByte() {
        // A reader that knows all bytes tells END by a 1, and behind END 01 is put: 10100000.
        is("open() of what should be", readerOf(256, 160).open(), 0);
        placeOf(readerOf(256, 255), 0);
    }

    @Edge(of = 11, says = SHOULD_BE)
    static void placeIsAByteAmongOthers() {
        placeOf(withOut(2, 50, 255, 65, 9), 1);
        placeOf(withOut(2, 50, 255, 63, 9), 1);
    }

    @Edge(of = 11, says = SHOULD_BE)
    static void placeIsTheLastByte() {
        placeOf(withOut(2, 50, 255, 65), 1);
    }

    @Edge(of = 11, says = "how many there should be, if OUT has more")
    static void placeOfOneByteMore() {
        placeOf(withOut(2, 50, 255, 64, 0), 2);
        placeOf(withOut(2, 50, 255, 64, 200), 2);
        placeOf(readerOf(256, 160, 0), 1);
    }

    @Edge(of = 11, says = "how many there should be, if OUT has more")
    static void placeOfManyBytesMore() {
        placeOf(withOut(2, 50, 255, 64, 0, 0, 0, 0, 0), 2);
    }

    @Edge(of = 11, says = "how many it has, if less")
    static void placeOfOneByteLess() {
        placeOf(withOut(2, 50, 255), 1);
    }

    @Edge(of = 11, says = "how many it has, if less")
    static void placeOfAZeroLess() {
        // What should be is 223 112 72 74 0: what is read is the same without the 0.
        is("open() of all", withOut(0, 50, 223, 112, 72, 74, 0).open(), 5);
        placeOf(withOut(0, 50, 223, 112, 72, 74), 4);
    }

    @Edge(of = 11, says = NO_PLACE)
    static void placeOfNoneAsked() {
        refused(Edges::fresh, "place()", PpmTrees::place, NO);
        refused(() -> Asked.packed(2, 50, 1), "place() behind pack()", PpmTrees::place, NO);
    }

    @Edge(of = 11, says = NO_PLACE)
    static void placeOfNoFault() {
        PpmTrees x = rich();
        is("place() ahead of it", x.place(), 8);
        x.reset(1);
        makeOut(x, 255, 64);
        is("open()", x.open(), 0);
        is("place()", x.place(), NO);
    }

    @Edge(of = 11, says = NO_PLACE)
    static void placeOfFault1() {
        PpmTrees x = rich();
        x.cut(0);
        is("open()", x.open(), -11);
        is("place()", x.place(), NO);
    }

    @Edge(of = 11, says = NO_PLACE)
    static void placeOfFault2() {
        PpmTrees x = withOut(0, 8, 255, 65);
        is("open() with fault 3", x.open(), -13);
        is("place() with fault 3", x.place(), 1);
        makeOut(x, 6, 249, 162, 159, 128);
        is("open()", x.open(), -12);
        is("place()", x.place(), NO);
    }

    @Edge(of = 11, says = "Of the latest open() with FAULT 3")
    static void placeStaysUntilTheNextOpen() {
        PpmTrees x = withOut(2, 50, 255, 65);
        placeOf(x, 1);
        x.alter(1, 64);
        x.cut(1);
        x.pack();
        x.reset(1);
        x.clear();
        is("place() behind other calls", x.place(), 1);
        makeOut(x, 255, 64, 3);
        placeOf(x, 2);
    }

    // ---- promise 12

    @Edge(of = 12, says = "NO: none was asked")
    static void toldOfNoPack() {
        for (int what = 0; what <= 2; what++) {
            int w = what;
            refused(Edges::fresh, "told(" + w + ")", x -> x.told(w), NO);
            refused(Edges::neverPacked, "told(" + w + ") behind other calls", x -> x.told(w), NO);
            PpmTrees x = neverPacked();
            x.told(w);
            is("forget() behind told(" + w + ")", x.forget(), 1);
        }
    }

    @Edge(of = 12, says = "BAD")
    static void toldOfTooSmallAWhat() {
        refused("told(-1)", x -> x.told(-1), BAD);
        refused("told(MIN)", x -> x.told(MIN), BAD);
    }

    @Edge(of = 12, says = "BAD")
    static void toldOfTooLargeAWhat() {
        refused("told(3)", x -> x.told(3), BAD);
        refused("told(MAX)", x -> x.told(MAX), BAD);
    }

    @Edge(of = 12, says = "BAD; NO")
    static void toldOfAWrongWhatAndNoPack() {
        refused(Edges::neverPacked, "told(-1) of none", x -> x.told(-1), BAD);
        refused(Edges::neverPacked, "told(3) of none", x -> x.told(3), BAD);
    }

    @Edge(of = 12, says = "what = 0 how many BITS, 1 ESCAPES, 2 how often THE MODEL RESTARTED")
    static void toldOfNoBytes() {
        PpmTrees x = fresh();
        x.pack();
        is("BITS", x.told(0), 10);
        is("ESCAPES", x.told(1), 0);
        is("RESTARTS", x.told(2), 0);
    }

    @Edge(of = 12, says = "what = 0 how many BITS")
    static void toldOfBitsThatFillTheLastByte() {
        PpmTrees x = Asked.packed(0, 50, 1, 0, 1, 0);
        is("BITS", x.told(0), 32);
        is("size(1)", x.size(1), 4);
    }

    @Edge(of = 12, says = "what = 0 how many BITS")
    static void toldOfOneBitInTheLastByte() {
        PpmTrees x = Asked.packed(0, 50, 224, 224, 224, 199, 199);
        is("BITS", x.told(0), 33);
        is("size(1)", x.size(1), 5);
    }

    @Edge(of = 12, says = "Of the latest pack()")
    static void toldOfTheLatestPackAlone() {
        PpmTrees x = rich();
        is("told of the first", x.told(0) + " " + x.told(1) + " " + x.told(2), "69 7 1");
        x.clear();
        x.reset(0);
        x.pack();
        is("told of the next", x.told(0) + " " + x.told(1) + " " + x.told(2), "10 0 0");
    }

    @Edge(of = 12, says = "Of the latest pack()")
    static void toldStaysWhenAllElseChanges() {
        PpmTrees x = rich();
        String before = Asked.packing(x);
        x.clear();
        x.cut(0);
        x.reset(0);
        x.restore(0, 0);
        x.open();
        is("what is told", Asked.packing(x), before);
    }

    // ---- promise 13

    @Edge(of = 13, says = NO_SIGN)
    static void signOfNoPack() {
        refused(Edges::neverPacked, "sign(0, 0) of none", x -> x.sign(0, 0), BAD);
        refused(Edges::neverPacked, "sign(0, 1) of none", x -> x.sign(0, 1), BAD);
    }

    @Edge(of = 13, says = NO_SIGN)
    static void signAheadOfTheFirst() {
        refused("sign(-1, 0)", x -> x.sign(-1, 0), BAD);
        refused("sign(-1, 1)", x -> x.sign(-1, 1), BAD);
        refused("sign(MIN, 0)", x -> x.sign(MIN, 0), BAD);
    }

    @Edge(of = 13, says = NO_SIGN)
    static void signBehindTheLast() {
        refused("sign(9, 0)", x -> x.sign(9, 0), BAD);
        refused("sign(9, 1)", x -> x.sign(9, 1), BAD);
        refused("sign(MAX, 1)", x -> x.sign(MAX, 1), BAD);
    }

    @Edge(of = 13, says = "BAD")
    static void signOfTooSmallAWhat() {
        refused("sign(0, -1)", x -> x.sign(0, -1), BAD);
        refused("sign(0, MIN)", x -> x.sign(0, MIN), BAD);
    }

    @Edge(of = 13, says = "BAD")
    static void signOfTooLargeAWhat() {
        refused("sign(0, 2)", x -> x.sign(0, 2), BAD);
        refused("sign(0, MAX)", x -> x.sign(0, MAX), BAD);
    }

    @Edge(of = 13, says = "(END, too)")
    static void signOfEndAlone() {
        PpmTrees x = fresh();
        x.pack();
        is("sign(0, 0)", x.sign(0, 0), 0);
        is("sign(0, 1)", x.sign(0, 1), NO);
        is("sign(1, 0)", x.sign(1, 0), BAD);
    }

    @Edge(of = 13, says = "(END, too)")
    static void signOfEndBehind300Bytes() {
        PpmTrees x = new PpmTrees(0, 8);
        Asked.addRepeated(x, 7, 299);
        x.add(8);
        x.pack();
        is("sign(299, 0)", x.sign(299, 0), 1);
        is("sign(299, 1)", x.sign(299, 1), NO);
        is("sign(300, 0)", x.sign(300, 0), 2);
        is("sign(300, 1)", x.sign(300, 1), NO);
        is("sign(301, 0)", x.sign(301, 0), BAD);
        is("sign(301, 1)", x.sign(301, 1), BAD);
    }

    @Edge(of = 13, says = "Of SIGN i of the latest pack()")
    static void signOfAShorterPack() {
        PpmTrees x = rich();
        x.clear();
        x.add(3);
        x.pack();
        is("SIGNS", Asked.signs(x), "0/0 2/-3");
        is("sign(2, 0)", x.sign(2, 0), BAD);
    }

    @Edge(of = 13, says = EXCLUDED)
    static void signWithNoneExcluded() {
        PpmTrees x = Asked.packed(0, 8, 7, 7);
        is("FLAT", x.sign(0, 0), 0);
        is("FOUND", x.sign(1, 0), 0);
    }

    @Edge(of = 13, says = EXCLUDED)
    static void signWithAllBytesExcluded() {
        PpmTrees x = new PpmTrees(0, 1500);
        for (int b = 0; b < 256; b++) {
            x.add(b);
        }
        x.pack();
        is("excluded at the last byte", x.sign(255, 0), 255);
        is("excluded at END", x.sign(256, 0), 256);
        is("END is FLAT", x.sign(256, 1), NO);
    }

    @Edge(of = 13, says = FOUND)
    static void signFoundInEachContext() {
        PpmTrees x = Asked.packed(4, 100, 1, 2, 3, 4, 5, 1, 2, 3, 4, 5, 1);
        int[] due = {NO, NO, NO, NO, NO, 0, 1, 2, 3, 4, 4, NO};
        for (int i = 0; i < due.length; i++) {
            is("sign(" + i + ", 1)", x.sign(i, 1), due[i]);
        }
    }
}
