/** The boundary cases of promises 1 to 8: a new object, and the rows of bytes. */
public final class EdgesOfBytesTest extends Edges {
    private static final String NEAREST = "ORDER and ROOM, of each the nearest that may be";
    private static final String ONE_MORE = "A byte more: how many there are.";
    private static final String N_MORE = "n bytes more (1 .. 300)";
    private static final String X_BECOMES = "x becomes x * 1103515245 + 12345";
    private static final String ECHO = "the byte d places before in THE TEXT, d being 1 + (seed >>> 28)";

    private EdgesOfBytesTest() {
    }

    public static void main(String[] args) throws Exception {
        run(EdgesOfBytesTest.class, 1, 8);
    }

    // ---- promise 1

    private static String latestOfOrder(int order) {
        return Asked.latest(Asked.packed(order, 100, 1, 2, 3, 4, 5, 6), 0);
    }

    @Edge(of = 1, says = NEAREST)
    static void orderTooSmallIs0() {
        is("latest of order -1", latestOfOrder(-1), "");
        is("latest of the least int", latestOfOrder(MIN), "");
    }

    @Edge(of = 1, says = NEAREST)
    static void orderMayBe0() {
        is("latest of order 0", latestOfOrder(0), "");
    }

    @Edge(of = 1, says = NEAREST)
    static void orderMayBe1() {
        is("latest of order 1", latestOfOrder(1), "6");
    }

    @Edge(of = 1, says = NEAREST)
    static void orderMayBe3() {
        is("latest of order 3", latestOfOrder(3), "4 5 6");
    }

    @Edge(of = 1, says = NEAREST)
    static void orderMayBe4() {
        is("latest of order 4", latestOfOrder(4), "3 4 5 6");
    }

    @Edge(of = 1, says = NEAREST)
    static void orderTooLargeIs4() {
        is("latest of order 5", latestOfOrder(5), "3 4 5 6");
        is("latest of the greatest int", latestOfOrder(MAX), "3 4 5 6");
    }

    /** Of order 0 each new byte is one node: the bytes from 1 on. */
    private static int nodesOfRoom(int room, int bytes) {
        PpmTrees x = new PpmTrees(0, room);
        for (int b = 1; b <= bytes; b++) {
            x.add(b);
        }
        x.pack();
        return x.nodes(0);
    }

    @Edge(of = 1, says = NEAREST)
    static void roomTooSmallIs8() {
        for (int room : new int[] {7, 1, 0, -1, MIN}) {
            is("7 bytes in room " + room, nodesOfRoom(room, 7), 8);
            is("8 bytes in room " + room, nodesOfRoom(room, 8), 1);
        }
    }

    @Edge(of = 1, says = NEAREST)
    static void roomMayBe8() {
        is("7 bytes in room 8", nodesOfRoom(8, 7), 8);
        is("8 bytes in room 8", nodesOfRoom(8, 8), 1);
    }

    @Edge(of = 1, says = NEAREST)
    static void roomMayBe9() {
        is("8 bytes in room 9", nodesOfRoom(9, 8), 9);
        is("9 bytes in room 9", nodesOfRoom(9, 9), 1);
    }

    /**
     * Of order 4: the bytes 0 to 255 bring 1270 nodes, 56 that rise by two bring four each, and
     * 111, which is known behind 110, three: 1498 with the root. Then 112 would bring two, 113 one.
     */
    private static PpmTrees grownTo1498(int room) {
        PpmTrees x = new PpmTrees(4, room);
        for (int b = 0; b < 256; b++) {
            x.add(b);
        }
        x.pack();
        x.clear();
        for (int b = 0; b <= 110; b += 2) {
            x.add(b);
        }
        x.add(111);
        x.pack();
        is("nodes in room " + room, x.nodes(0), 1498);
        x.clear();
        return x;
    }

    private static void hasRoomFor1500(int room) {
        PpmTrees x = grownTo1498(room);
        x.add(112);
        x.pack();
        is("nodes and two more in room " + room, x.nodes(0), 1500);
        x.clear();
        x.add(113);
        x.pack();
        is("nodes and three more in room " + room, x.nodes(0), 1);
    }

    @Edge(of = 1, says = NEAREST)
    static void roomMayBe1499() {
        PpmTrees x = grownTo1498(1499);
        x.add(112);
        x.pack();
        is("nodes and two more in room 1499", x.nodes(0), 1);
    }

    @Edge(of = 1, says = NEAREST)
    static void roomMayBe1500() {
        hasRoomFor1500(1500);
    }

    @Edge(of = 1, says = NEAREST)
    static void roomTooLargeIs1500() {
        hasRoomFor1500(1501);
        hasRoomFor1500(MAX);
    }

    @Edge(of = 1, says = NEAREST)
    static void readerHasTheSameOrderAndRoom() {
        PpmTrees x = Asked.packed(MAX, MIN, 1, 2, 3, 4, 5, 6);
        is("open()", x.open(), 6);
        is("equal()", x.equal(), 1);
        is("restarted(1)", x.restarted(1), x.restarted(0));
    }

    @Edge(of = 1, says = "no bytes")
    static void newObjectHasNoBytes() {
        for (int which = 0; which <= 2; which++) {
            is("size(" + which + ")", fresh().size(which), 0);
        }
    }

    // ---- promise 2

    @Edge(of = 2, says = "how many bytes it had")
    static void clearOfNoBytes() {
        PpmTrees x = fresh();
        is("clear()", x.clear(), 0);
        is("size(0)", x.size(0), 0);
        x = rich();
        x.clear();
        is("clear() again", x.clear(), 0);
    }

    @Edge(of = 2, says = "how many bytes it had")
    static void clearOfOneByte() {
        PpmTrees x = fresh();
        x.add(0);
        is("clear()", x.clear(), 1);
    }

    @Edge(of = 2, says = "how many bytes it had")
    static void clearOf300Bytes() {
        PpmTrees x = richAndFull();
        is("clear()", x.clear(), 300);
        is("size(0)", x.size(0), 0);
        is("fill(300, 1, 0)", x.fill(300, 1, 0), 300);
    }

    @Edge(of = 2, says = "THE TEXT is empty")
    static void clearLeavesNoByteBehind() {
        PpmTrees x = rich();
        x.clear();
        is("octet(0, 0)", x.octet(0, 0), BAD);
        x.add(77);
        is("THE TEXT", Asked.row(x, 0), "77");
    }

    @Edge(of = 2, says = "THE TEXT is empty")
    static void clearLeavesAllElse() {
        changesNothing("clear() and the same text again", x -> {
            x.clear();
            Asked.addAll(x, 1, 2, 3, 0, 255, 3, 3, 0);
            return 0;
        });
    }

    // ---- promise 3

    @Edge(of = 3, says = ONE_MORE)
    static void addOfTheLeastByte() {
        PpmTrees x = fresh();
        is("add(0)", x.add(0), 1);
        is("octet(0, 0)", x.octet(0, 0), 0);
    }

    @Edge(of = 3, says = ONE_MORE)
    static void addOfTheGreatestByte() {
        PpmTrees x = fresh();
        is("add(255)", x.add(255), 1);
        is("octet(0, 0)", x.octet(0, 0), 255);
    }

    @Edge(of = 3, says = ONE_MORE)
    static void addOfThe300thByte() {
        PpmTrees x = fresh();
        x.fill(299, 1, 0);
        is("add(9) to 299", x.add(9), 300);
        is("octet(0, 299)", x.octet(0, 299), 9);
    }

    @Edge(of = 3, says = "BAD")
    static void addOfTooSmallANumber() {
        refused("add(-1)", x -> x.add(-1), BAD);
        refused("add(MIN)", x -> x.add(MIN), BAD);
    }

    @Edge(of = 3, says = "BAD")
    static void addOfTooLargeANumber() {
        refused("add(256)", x -> x.add(256), BAD);
        refused("add(MAX)", x -> x.add(MAX), BAD);
    }

    @Edge(of = 3, says = "FULL")
    static void addOfThe301stByte() {
        refused(Edges::richAndFull, "add(0) to 300", x -> x.add(0), FULL);
        refused(Edges::richAndFull, "add(255) to 300", x -> x.add(255), FULL);
    }

    @Edge(of = 3, says = "BAD, FULL")
    static void addOfNoByteToAFullText() {
        refused(Edges::richAndFull, "add(256) to 300", x -> x.add(256), BAD);
        refused(Edges::richAndFull, "add(-1) to 300", x -> x.add(-1), BAD);
    }

    // ---- promise 4

    private static String filled(int n, int seed, int how, int... before) {
        PpmTrees x = fresh();
        Asked.addAll(x, before);
        is("fill(" + n + ", " + seed + ", " + how + ")", x.fill(n, seed, how), before.length + n);
        return Asked.row(x, 0);
    }

    private static PpmTrees filledTo(int n) {
        PpmTrees x = rich();
        x.clear();
        x.fill(n, 1, 0);
        return x;
    }

    @Edge(of = 4, says = N_MORE)
    static void fillOfOneByte() {
        is("THE TEXT", filled(1, 1, 0), "198");
    }

    @Edge(of = 4, says = N_MORE)
    static void fillOf300Bytes() {
        PpmTrees x = fresh();
        is("fill(300, 1, 1)", x.fill(300, 1, 1), 300);
        is("size(0)", x.size(0), 300);
    }

    @Edge(of = 4, says = "BAD: another n, how")
    static void fillOfTooFewBytes() {
        refused("fill(0, 1, 0)", x -> x.fill(0, 1, 0), BAD);
        refused("fill(-1, 1, 0)", x -> x.fill(-1, 1, 0), BAD);
        refused("fill(MIN, 1, 0)", x -> x.fill(MIN, 1, 0), BAD);
    }

    @Edge(of = 4, says = "BAD: another n, how")
    static void fillOfTooManyBytes() {
        refused("fill(301, 1, 0)", x -> x.fill(301, 1, 0), BAD);
        refused("fill(MAX, 1, 0)", x -> x.fill(MAX, 1, 0), BAD);
        refused(Edges::fresh, "fill(301, 1, 0) of none", x -> x.fill(301, 1, 0), BAD);
    }

    @Edge(of = 4, says = "BAD: another n, how")
    static void fillOfTooSmallAHow() {
        refused("fill(1, 1, -1)", x -> x.fill(1, 1, -1), BAD);
        refused("fill(1, 1, MIN)", x -> x.fill(1, 1, MIN), BAD);
    }

    @Edge(of = 4, says = "BAD: another n, how")
    static void fillOfTooLargeAHow() {
        refused("fill(1, 1, 4)", x -> x.fill(1, 1, 4), BAD);
        refused("fill(1, 1, MAX)", x -> x.fill(1, 1, MAX), BAD);
    }

    @Edge(of = 4, says = "FULL")
    static void fillUpTo300Bytes() {
        is("fill(1, 1, 0) of 299", filledTo(299).fill(1, 1, 0), 300);
        is("fill(299, 1, 0) of 1", filledTo(1).fill(299, 1, 0), 300);
    }

    @Edge(of = 4, says = "FULL")
    static void fillOfOneByteTooMany() {
        refused(() -> filledTo(299), "fill(2, 1, 0) of 299", x -> x.fill(2, 1, 0), FULL);
        refused(() -> filledTo(1), "fill(300, 1, 0) of 1", x -> x.fill(300, 1, 0), FULL);
    }

    @Edge(of = 4, says = "FULL")
    static void fillOfAFullText() {
        for (int how = 0; how <= 3; how++) {
            int h = how;
            refused(Edges::richAndFull, "fill(1, 1, " + h + ") of 300", x -> x.fill(1, 1, h), FULL);
        }
    }

    @Edge(of = 4, says = "BAD: another n, how; FULL")
    static void fillOfWrongNumbersToAFullText() {
        refused(Edges::richAndFull, "fill(0, 1, 0) of 300", x -> x.fill(0, 1, 0), BAD);
        refused(Edges::richAndFull, "fill(301, 1, 0) of 300", x -> x.fill(301, 1, 0), BAD);
        refused(Edges::richAndFull, "fill(1, 1, -1) of 300", x -> x.fill(1, 1, -1), BAD);
        refused(Edges::richAndFull, "fill(1, 1, 4) of 300", x -> x.fill(1, 1, 4), BAD);
    }

    @Edge(of = 4, says = X_BECOMES)
    static void fillOfSeed0() {
        // x is 12345, then -740551042 by the wrap-around, which is 0xD3DC167E; 0xDC is 220.
        is("THE TEXT", filled(2, 0, 0), "0 220");
    }

    @Edge(of = 4, says = X_BECOMES)
    static void fillWrapsAround() {
        is("of the greatest seed", filled(4, MAX, 0), "57 57 134 94");
        is("of the least seed", filled(4, MIN, 0), "0 220 4 101");
    }

    @Edge(of = 4, says = "z is x >>> 16")
    static void fillShiftsWithoutASign() {
        // Of seed -1 x is -1103502900 at first, and z 48697, not -16839.
        is("how 0", filled(1, -1, 0), "57");
        is("how 1", filled(1, -1, 1), "1");
        is("how 3", filled(1, -1, 3), "1");
        // Of seed 76347 z is 65535.
        is("the greatest z, how 0", filled(1, 76347, 0), "255");
        is("the greatest z, how 1", filled(1, 76347, 1), "3");
    }

    @Edge(of = 4, says = "how 0: z % 256")
    static void fillModulo256() {
        is("z is 15871", filled(1, 71, 0), "255");
        is("z is 256", filled(1, 7033, 0), "0");
    }

    @Edge(of = 4, says = "1: z % 4")
    static void fillModulo4() {
        is("z is 50515", filled(1, 3, 1), "3");
        is("z is 256", filled(1, 7033, 1), "0");
    }

    @Edge(of = 4, says = ECHO)
    static void fillEchoesTheByteBefore() {
        is("d is 1", filled(3, 1, 2, 7, 8), "7 8 8 8 8");
    }

    @Edge(of = 4, says = ECHO)
    static void fillEchoesTheByte16Before() {
        is("d is 16", filled(2, -1, 2, 50, 51, 52, 53, 54, 55, 56, 57, 58, 59, 60, 61, 62, 63, 64, 65),
            "50 51 52 53 54 55 56 57 58 59 60 61 62 63 64 65 50 51");
    }

    @Edge(of = 4, says = ECHO)
    static void fillEchoesWhatItHasMade() {
        // d is 2: the third byte is one that this call made.
        is("d is 2", filled(4, 0x10000001, 2, 7, 8), "7 8 7 8 7 8");
    }

    @Edge(of = 4, says = "just 0, if there is none there")
    static void fillHasNoByteToEcho() {
        is("the first of all", filled(1, 1, 2), "0");
        // z is 0 modulo 16 here, and it is just 0 all the same.
        is("the first of all, seed 0", filled(1, 0, 2), "0");
        is("15 bytes, d is 16", filled(2, -1, 2, 50, 51, 52, 53, 54, 55, 56, 57, 58, 59, 60, 61, 62, 63, 64),
            "50 51 52 53 54 55 56 57 58 59 60 61 62 63 64 0 50");
    }

    @Edge(of = 4, says = "and 1 more, modulo 256, if z % 16 is 0")
    static void fillEchoesOneMore() {
        is("z is 0", filled(1, 0, 2, 7), "7 8");
        is("z is 31376, 0 modulo 16", filled(1, 33, 2, 7), "7 8");
        is("1 modulo 16", filled(1, 18, 2, 7), "7 7");
        is("8 modulo 16", filled(1, 9, 2, 7), "7 7");
        is("15 modulo 16", filled(1, 5, 2, 7), "7 7");
        is("0 modulo 15, not 16", filled(1, 13, 2, 7), "7 7");
    }

    @Edge(of = 4, says = "and 1 more, modulo 256, if z % 16 is 0")
    static void fillEchoWrapsAround() {
        is("254 and 1 more", filled(1, 0, 2, 254), "254 255");
        is("255 and 1 more", filled(1, 0, 2, 255), "255 0");
        is("255 and no more", filled(1, 5, 2, 255), "255 255");
    }

    @Edge(of = 4, says = "3: the byte of this call before (at first 0)")
    static void fillRisesFrom0InEachCall() {
        is("behind 200", filled(3, 3, 3, 200), "200 3 6 7");
        PpmTrees x = fresh();
        x.fill(3, 3, 3);
        x.fill(3, 3, 3);
        is("two calls", Asked.row(x, 0), "3 6 7 3 6 7");
    }

    @Edge(of = 4, says = "+ z % 4, modulo 256")
    static void fillRiseWrapsAround() {
        PpmTrees x = fresh();
        x.fill(300, 11, 3);
        is("the byte ahead of 256", x.octet(0, 171), 254);
        is("the byte that is 256", x.octet(0, 172), 0);
    }

    @Edge(of = 4, says = N_MORE)
    static void fillLeavesAllElse() {
        changesNothing("fill(), clear() and the same text again", x -> {
            x.fill(200, 9, 2);
            x.clear();
            Asked.addAll(x, 1, 2, 3, 0, 255, 3, 3, 0);
            return 0;
        });
    }

    // ---- promise 5

    @Edge(of = 5, says = "How many bytes")
    static void sizeOfFullRows() {
        PpmTrees x = fresh();
        x.fill(300, 4, 3);
        int packed = x.pack();
        x.open();
        is("size(0)", x.size(0), 300);
        is("size(1)", x.size(1), packed);
        is("size(2)", x.size(2), 300);
    }

    @Edge(of = 5, says = "THE TEXT (which = 0), OUT (1), THE RECEIVED (2)")
    static void sizeOfEachRow() {
        is("size(0)", rich().size(0), 8);
        is("size(1)", rich().size(1), 9);
        is("size(2)", rich().size(2), 7);
    }

    @Edge(of = 5, says = "BAD")
    static void sizeOfTooSmallAWhich() {
        refused("size(-1)", x -> x.size(-1), BAD);
        refused("size(MIN)", x -> x.size(MIN), BAD);
    }

    @Edge(of = 5, says = "BAD")
    static void sizeOfTooLargeAWhich() {
        refused("size(3)", x -> x.size(3), BAD);
        refused("size(MAX)", x -> x.size(MAX), BAD);
    }

    // ---- promise 6

    @Edge(of = 6, says = "Byte i of THE TEXT, OUT, THE RECEIVED.")
    static void octetIsTheFirst() {
        is("octet(0, 0)", rich().octet(0, 0), 1);
        is("octet(1, 0)", rich().octet(1, 0), 128);
        is("octet(2, 0)", rich().octet(2, 0), 1);
    }

    @Edge(of = 6, says = "Byte i of THE TEXT, OUT, THE RECEIVED.")
    static void octetIsTheLast() {
        is("octet(0, 7)", rich().octet(0, 7), 0);
        is("octet(1, 8)", rich().octet(1, 8), 105);
        is("octet(2, 6)", rich().octet(2, 6), 2);
    }

    @Edge(of = 6, says = "Byte i of THE TEXT, OUT, THE RECEIVED.")
    static void octetOfFullRows() {
        PpmTrees x = fresh();
        x.fill(299, 4, 3);
        x.add(171);
        x.pack();
        x.open();
        is("octet(0, 299)", x.octet(0, 299), 171);
        is("octet(0, 300)", x.octet(0, 300), BAD);
        is("octet(2, 299)", x.octet(2, 299), 171);
        is("octet(2, 300)", x.octet(2, 300), BAD);
    }

    @Edge(of = 6, says = "Byte i of THE TEXT, OUT, THE RECEIVED.")
    static void octetIsTheLeastOrTheGreatest() {
        PpmTrees x = Asked.packed(2, 50, 0, 255);
        x.open();
        is("THE TEXT", Asked.row(x, 0), "0 255");
        is("THE RECEIVED", Asked.row(x, 2), "0 255");
        x.alter(0, 255);
        x.alter(1, 0);
        is("octet(1, 0)", x.octet(1, 0), 255);
        is("octet(1, 1)", x.octet(1, 1), 0);
    }

    @Edge(of = 6, says = "BAD: no such one")
    static void octetAheadOfTheFirst() {
        for (int which = 0; which <= 2; which++) {
            int w = which;
            refused("octet(" + w + ", -1)", x -> x.octet(w, -1), BAD);
            refused("octet(" + w + ", MIN)", x -> x.octet(w, MIN), BAD);
        }
    }

    @Edge(of = 6, says = "BAD: no such one")
    static void octetBehindTheLast() {
        refused("octet(0, 8)", x -> x.octet(0, 8), BAD);
        refused("octet(1, 9)", x -> x.octet(1, 9), BAD);
        refused("octet(2, 7)", x -> x.octet(2, 7), BAD);
        refused("octet(0, MAX)", x -> x.octet(0, MAX), BAD);
        refused("octet(1, MAX)", x -> x.octet(1, MAX), BAD);
        refused("octet(2, MAX)", x -> x.octet(2, MAX), BAD);
    }

    @Edge(of = 6, says = "BAD: no such one")
    static void octetOfEmptyRows() {
        for (int which = 0; which <= 2; which++) {
            int w = which;
            refused(Edges::fresh, "octet(" + w + ", 0) of none", x -> x.octet(w, 0), BAD);
        }
    }

    @Edge(of = 6, says = "BAD: no such one")
    static void octetOfNoRow() {
        refused("octet(-1, 0)", x -> x.octet(-1, 0), BAD);
        refused("octet(3, 0)", x -> x.octet(3, 0), BAD);
        refused("octet(MIN, 0)", x -> x.octet(MIN, 0), BAD);
        refused("octet(MAX, 0)", x -> x.octet(MAX, 0), BAD);
    }

    @Edge(of = 6, says = "BAD: no such one")
    static void octetOfWhatIsGone() {
        PpmTrees x = rich();
        x.cut(4);
        is("octet(1, 3)", x.octet(1, 3), 7);
        is("octet(1, 4) behind cut(4)", x.octet(1, 4), BAD);
        x.clear();
        is("octet(0, 0) behind clear()", x.octet(0, 0), BAD);
        x.reset(0);
        x.reset(1);
        x.pack();
        x.open();
        is("octet(2, 0) behind an open() of no bytes", x.octet(2, 0), BAD);
    }

    // ---- promise 7

    private static final String RICH_OUT = "128 186 179 7 249 241 85 193 105";

    private static String altered(int i, int b, int was) {
        PpmTrees x = rich();
        is("alter(" + i + ", " + b + ")", x.alter(i, b), was);
        return Asked.row(x, 1);
    }

    @Edge(of = 7, says = "Byte i of OUT becomes b: what it was.")
    static void alterOfTheFirst() {
        is("OUT", altered(0, 7, 128), "7" + RICH_OUT.substring(3));
    }

    @Edge(of = 7, says = "Byte i of OUT becomes b: what it was.")
    static void alterOfTheLast() {
        is("OUT", altered(8, 7, 105), "128 186 179 7 249 241 85 193 7");
    }

    @Edge(of = 7, says = "Byte i of OUT becomes b: what it was.")
    static void alterToTheLeast() {
        is("OUT", altered(1, 0, 186), "128 0 179 7 249 241 85 193 105");
    }

    @Edge(of = 7, says = "Byte i of OUT becomes b: what it was.")
    static void alterToTheGreatest() {
        is("OUT", altered(1, 255, 186), "128 255 179 7 249 241 85 193 105");
    }

    @Edge(of = 7, says = "Byte i of OUT becomes b: what it was.")
    static void alterToWhatItIs() {
        changesNothing("alter(1, 186)", x -> x.alter(1, 186));
    }

    @Edge(of = 7, says = "Byte i of OUT becomes b: what it was.")
    static void alterAndBackLeavesAllElse() {
        changesNothing("alter(1, 0), alter(1, 186)", x -> x.alter(1, 0) + x.alter(1, 186));
    }

    @Edge(of = 7, says = "BAD")
    static void alterAheadOfTheFirst() {
        refused("alter(-1, 0)", x -> x.alter(-1, 0), BAD);
        refused("alter(MIN, 0)", x -> x.alter(MIN, 0), BAD);
    }

    @Edge(of = 7, says = "BAD")
    static void alterBehindTheLast() {
        refused("alter(9, 0)", x -> x.alter(9, 0), BAD);
        refused("alter(MAX, 0)", x -> x.alter(MAX, 0), BAD);
    }

    @Edge(of = 7, says = "BAD")
    static void alterToTooSmallANumber() {
        refused("alter(0, -1)", x -> x.alter(0, -1), BAD);
        refused("alter(0, MIN)", x -> x.alter(0, MIN), BAD);
    }

    @Edge(of = 7, says = "BAD")
    static void alterToTooLargeANumber() {
        refused("alter(0, 256)", x -> x.alter(0, 256), BAD);
        refused("alter(0, MAX)", x -> x.alter(0, MAX), BAD);
    }

    @Edge(of = 7, says = "BAD")
    static void alterOfAnEmptyOut() {
        refused(Edges::fresh, "alter(0, 0) of none", x -> x.alter(0, 0), BAD);
    }

    @Edge(of = 7, says = "BAD")
    static void alterOfWhatIsCut() {
        refused(() -> richCut(4), "alter(4, 0) behind cut(4)", x -> x.alter(4, 0), BAD);
    }

    // ---- promise 8

    private static PpmTrees richCut(int n) {
        PpmTrees x = rich();
        x.cut(n);
        return x;
    }

    @Edge(of = 8, says = "OUT keeps its first n bytes: how many went.")
    static void cutOfNone() {
        is("cut(9)", rich().cut(9), 0);
        changesNothing("cut(9)", x -> x.cut(9));
    }

    @Edge(of = 8, says = "OUT keeps its first n bytes: how many went.")
    static void cutOfTheLast() {
        PpmTrees x = rich();
        is("cut(8)", x.cut(8), 1);
        is("OUT", Asked.row(x, 1), "128 186 179 7 249 241 85 193");
    }

    @Edge(of = 8, says = "OUT keeps its first n bytes: how many went.")
    static void cutOfAllButTheFirst() {
        PpmTrees x = rich();
        is("cut(1)", x.cut(1), 8);
        is("OUT", Asked.row(x, 1), "128");
    }

    @Edge(of = 8, says = "OUT keeps its first n bytes: how many went.")
    static void cutOfAll() {
        PpmTrees x = rich();
        is("cut(0)", x.cut(0), 9);
        is("size(1)", x.size(1), 0);
    }

    @Edge(of = 8, says = "OUT keeps its first n bytes: how many went.")
    static void cutOfAnEmptyOut() {
        is("cut(0) of none", fresh().cut(0), 0);
        refused(Edges::fresh, "cut(1) of none", x -> x.cut(1), BAD);
    }

    @Edge(of = 8, says = "OUT keeps its first n bytes: how many went.")
    static void cutLeavesAllElse() {
        PpmTrees x = rich();
        String text = Asked.row(x, 0) + "|" + Asked.packing(x) + "|" + Asked.model(x, 0) + "|"
            + Asked.end(x, 1) + "|" + x.place();
        x.cut(3);
        is("all but OUT", Asked.row(x, 0) + "|" + Asked.packing(x) + "|" + Asked.model(x, 0) + "|"
            + Asked.end(x, 1) + "|" + x.place(), text);
        is("forget()", x.forget(), 2);
    }

    @Edge(of = 8, says = "BAD")
    static void cutToTooFew() {
        refused("cut(-1)", x -> x.cut(-1), BAD);
        refused("cut(MIN)", x -> x.cut(MIN), BAD);
    }

    @Edge(of = 8, says = "BAD")
    static void cutToTooMany() {
        refused("cut(10)", x -> x.cut(10), BAD);
        refused("cut(MAX)", x -> x.cut(MAX), BAD);
        refused(() -> richCut(4), "cut(5) behind cut(4)", x -> x.cut(5), BAD);
    }
}
