/** Promises 1 to 8: a new object, and the rows of bytes. */
public final class BytesTest {
    private static final int MIN = Integer.MIN_VALUE;
    private static final int MAX = Integer.MAX_VALUE;
    private static final Due DUE = new Due("BytesTest");

    private BytesTest() {
    }

    public static void main(String[] args) {
        newObjectIsEmpty();
        clearEmptiesTheTextAlone();
        addTakesBytesUpTo300();
        fillMakesBytes();
        fillEchoes();
        sizeAndOctet();
        alterChangesOneByteOfOut();
        cutShortensOut();
        DUE.end();
    }

    private static void newObjectIsEmpty() {
        PpmTrees x = new PpmTrees(2, 50);
        DUE.is("all of a new object", Asked.all(x),
            "|||-3|-3|-3|-3|1|0|-1/-1/0/0|0|-1/-1/0/0|||");
        DUE.is("forget() of a new object", x.forget(), 0);
    }

    private static void clearEmptiesTheTextAlone() {
        PpmTrees x = new PpmTrees(1, 50);
        DUE.is("clear() of no bytes", x.clear(), 0);
        Asked.addAll(x, 5, 6, 7);
        x.pack();
        x.open();
        String out = Asked.row(x, 1);
        DUE.is("clear()", x.clear(), 3);
        DUE.is("size(0) behind clear()", x.size(0), 0);
        DUE.is("octet(0, 0) behind clear()", x.octet(0, 0), -1);
        DUE.is("OUT behind clear()", Asked.row(x, 1), out);
        DUE.is("THE RECEIVED behind clear()", Asked.row(x, 2), "5 6 7");
        DUE.is("clear() again", x.clear(), 0);
        x.add(9);
        DUE.is("THE TEXT anew", Asked.row(x, 0), "9");
    }

    private static void addTakesBytesUpTo300() {
        PpmTrees x = new PpmTrees(1, 50);
        for (int b : new int[] {-1, 256, MIN, MAX}) {
            DUE.is("add(" + b + ")", x.add(b), -1);
        }
        DUE.is("add(0)", x.add(0), 1);
        DUE.is("add(255)", x.add(255), 2);
        DUE.is("THE TEXT", Asked.row(x, 0), "0 255");
        for (int i = 3; i <= 300; i++) {
            DUE.is("add(" + i % 256 + ")", x.add(i % 256), i);
        }
        DUE.is("add(1) to 300", x.add(1), -2);
        DUE.is("add(256) to 300", x.add(256), -1);
        DUE.is("size(0)", x.size(0), 300);
        DUE.is("octet(0, 299)", x.octet(0, 299), 44);
    }

    private static void filled(int n, int seed, int how, String want, int... before) {
        PpmTrees x = new PpmTrees(1, 50);
        Asked.addAll(x, before);
        DUE.is("fill of " + n, x.fill(n, seed, how), before.length + n);
        StringBuilder all = new StringBuilder();
        for (int b : before) {
            all.append(b).append(' ');
        }
        DUE.is("fill(" + n + ", " + seed + ", " + how + ")", Asked.row(x, 0), all + want);
    }

    private static void fillMakesBytes() {
        filled(12, 0, 0, "0 220 4 101 170 31 173 29 90 218 229 172");
        filled(12, 1, 0, "198 126 129 107 75 251 226 251 84 246 189 223", 3, 4);
        filled(12, -1, 0, "57 57 134 94 9 66 120 63 96 190 13 121");
        filled(12, MAX, 0, "57 57 134 94 9 66 120 63 96 190 13 121");
        filled(12, MIN, 0, "0 220 4 101 170 31 173 29 90 218 229 172");
        filled(12, 7, 1, "0 2 0 2 3 1 2 2 1 1 1 3");
        filled(12, 7, 3, "0 2 2 4 7 8 10 12 13 14 15 18", 9);
        filled(12, -5, 3, "0 3 6 6 6 7 9 9 9 9 10 10");
        PpmTrees x = new PpmTrees(1, 50);
        DUE.is("fill(300, 11, 3)", x.fill(300, 11, 3), 300);
        DUE.is("the byte ahead of 256", x.octet(0, 171), 254);
        DUE.is("the byte that is 256 modulo 256", x.octet(0, 172), 0);
        DUE.is("fill(1, 1, 0) of 300", x.fill(1, 1, 0), -2);
    }

    private static void fillEchoes() {
        // The first z of seed 0 is 0: yet it is just 0, since there is no byte before.
        filled(20, 0, 2, "0 0 0 0 0 0 0 0 0 0 0 0 0 0 0 0 1 1 1 1");
        filled(3, 0, 2, "0 0 0", 255);
        filled(2, 0, 2, "8 8", 7);
        filled(20, 0x20000000, 2, "2 2 3 2 2 3 2 2 3 2 2 3 2 2 3 2 3 3 2 3", 1, 2, 3);
        filled(20, -1, 2, "104 105 106 107 108 109 110 111 113 113 114 115 116 118 118 119 104 105 106 107",
            100, 101, 102, 103, 104, 105, 106, 107, 108, 109, 110, 111, 112, 113, 114, 115, 116, 117, 118, 119);
    }

    private static void sizeAndOctet() {
        PpmTrees x = new PpmTrees(3, 50);
        Asked.addAll(x, 11, 22, 33);
        int packed = x.pack();
        x.open();
        x.clear();
        Asked.addAll(x, 44, 55);
        DUE.is("size(0)", x.size(0), 2);
        DUE.is("size(1)", x.size(1), packed);
        DUE.is("size(2)", x.size(2), 3);
        DUE.is("octet(0, 1)", x.octet(0, 1), 55);
        DUE.is("octet(0, 2)", x.octet(0, 2), -1);
        DUE.is("octet(1, size)", x.octet(1, packed), -1);
        DUE.holds("octet(1, size - 1) is a byte", x.octet(1, packed - 1) >= 0);
        DUE.is("octet(2, 0)", x.octet(2, 0), 11);
        DUE.is("octet(2, 2)", x.octet(2, 2), 33);
        DUE.is("octet(2, 3)", x.octet(2, 3), -1);
        for (int wrong : new int[] {-1, 3, MIN, MAX}) {
            DUE.is("size(" + wrong + ")", x.size(wrong), -1);
            DUE.is("octet(" + wrong + ", 0)", x.octet(wrong, 0), -1);
        }
        for (int wrong : new int[] {-1, 300, MIN, MAX}) {
            for (int which = 0; which <= 2; which++) {
                DUE.is("octet(" + which + ", " + wrong + ")", x.octet(which, wrong), -1);
            }
        }
    }

    private static void alterChangesOneByteOfOut() {
        PpmTrees x = new PpmTrees(3, 50);
        DUE.is("alter(0, 0) of no OUT", x.alter(0, 0), -1);
        x.pack();
        DUE.is("OUT", Asked.row(x, 1), "255 64");
        int[][] bad = {{-1, 0}, {2, 0}, {MIN, 0}, {MAX, 0}, {0, -1}, {0, 256}, {0, MIN}, {0, MAX}};
        for (int[] b : bad) {
            DUE.is("alter(" + b[0] + ", " + b[1] + ")", x.alter(b[0], b[1]), -1);
        }
        DUE.is("OUT behind refusals", Asked.row(x, 1), "255 64");
        DUE.is("alter(1, 255)", x.alter(1, 255), 64);
        DUE.is("alter(0, 0)", x.alter(0, 0), 255);
        DUE.is("alter(0, 9)", x.alter(0, 9), 0);
        DUE.is("OUT altered", Asked.row(x, 1), "9 255");
    }

    private static void cutShortensOut() {
        PpmTrees x = new PpmTrees(3, 50);
        DUE.is("cut(0) of no OUT", x.cut(0), 0);
        DUE.is("cut(1) of no OUT", x.cut(1), -1);
        Asked.addAll(x, 1, 2, 3, 4);
        int packed = x.pack();
        int first = x.octet(1, 0);
        for (int wrong : new int[] {-1, packed + 1, MIN, MAX}) {
            DUE.is("cut(" + wrong + ")", x.cut(wrong), -1);
        }
        DUE.is("cut(all)", x.cut(packed), 0);
        DUE.is("size(1)", x.size(1), packed);
        DUE.is("cut(1)", x.cut(1), packed - 1);
        DUE.is("OUT behind cut(1)", Asked.row(x, 1), "" + first);
        DUE.is("alter of a byte that is cut", x.alter(1, 1), -1);
        DUE.is("cut(0)", x.cut(0), 1);
        DUE.is("size(1) behind cut(0)", x.size(1), 0);
        // What is packed again stands alone, without what was there before it was cut.
        x.reset(0);
        DUE.is("pack() again", x.pack(), packed);
        DUE.is("octet(1, 0) again", x.octet(1, 0), first);
    }
}
