/** Promises 9 to 13: saying a text, and what is told of it. */
public final class SayingTest {
    private static final int MIN = Integer.MIN_VALUE;
    private static final int MAX = Integer.MAX_VALUE;
    private static final Due DUE = new Due("SayingTest");

    private SayingTest() {
    }

    public static void main(String[] args) {
        packTellsSignsByContexts();
        packTellsTheGreatestContextFirst();
        packTellsLesserBytesFirst();
        packExcludesAllBytes();
        packGoesOnWithItsModel();
        packAndOpenAreAlike();
        openSeesBitsBehindTheEnd();
        openSeesTooManyBytes();
        openSeesWhatNoWriterWrote();
        toldIsOfTheLatestPack();
        DUE.end();
    }

    private static void packTellsSignsByContexts() {
        PpmTrees x = Asked.packed(1, 50, 'a', 'b', 'a', 'b', 'a', 'c', 'a');
        DUE.is("SIGNS of ababaca", Asked.signs(x), "0/-3 1/-3 0/0 0/1 0/1 2/-3 0/0 3/-3");
        DUE.is("ESCAPES of ababaca", x.told(1), 5);
        DUE.is("the tree of ababaca", Asked.tree(x, 0),
            "-1/-1/0/0 0/97/3/1 0/98/1/1 1/98/2/2 2/97/2/2 0/99/1/1 1/99/1/2 5/97/1/2");
        DUE.is("THE TEXT stays", Asked.row(x, 0), "97 98 97 98 97 99 97");
        DUE.is("open()", x.open(), 7);
        DUE.is("THE RECEIVED", Asked.row(x, 2), "97 98 97 98 97 99 97");
        DUE.is("the reader's tree", Asked.tree(x, 1), Asked.tree(x, 0));
    }

    private static void packTellsTheGreatestContextFirst() {
        // Behind abcabc: the greatest context is bc (order 2), where a stands: found there.
        PpmTrees x = Asked.packed(2, 100, 'a', 'b', 'c', 'a', 'b', 'c', 'a', 'x', 'b', 'c', 'b');
        DUE.is("SIGNS of order 2", Asked.signs(x),
            "0/-3 1/-3 2/-3 0/0 0/1 0/2 0/2 3/-3 0/0 0/1 1/0 4/-3");
        DUE.is("open() of order 2", x.open(), 11);
    }

    private static void packTellsLesserBytesFirst() {
        PpmTrees x = Asked.packed(0, 50, 9, 5, 7, 5, 9, 255, 0, 7, 0);
        DUE.is("OUT of bytes that do not rise", Asked.row(x, 1), "9 121 62 135 151 113 66 32 176");
        DUE.is("BITS of bytes that do not rise", x.told(0), 68);
        DUE.is("open() of bytes that do not rise", x.open(), 9);
    }

    private static void packExcludesAllBytes() {
        PpmTrees x = new PpmTrees(0, 1500);
        for (int b = 0; b < 256; b++) {
            x.add(b);
        }
        x.pack();
        DUE.is("excluded at END of 256 bytes", x.sign(256, 0), 256);
        DUE.is("the context of END", x.sign(256, 1), -3);
        DUE.is("the cost of END: an escape, and 1 of 1", x.cost(0, 256), 1);
        DUE.is("open()", x.open(), 256);
        x.clear();
        x.add(255);
        x.pack();
        DUE.is("255 is found", x.sign(0, 1), 0);
        DUE.is("open() of it", x.open(), 1);
        DUE.is("equal()", x.equal(), 1);
    }

    private static void packGoesOnWithItsModel() {
        PpmTrees x = Asked.packed(3, 200, 1, 2, 3, 1, 2, 3, 1, 2, 3);
        int first = x.size(1);
        x.open();
        int second = x.pack();
        DUE.holds("what is known takes less", second < first);
        DUE.is("open() goes on too", x.open(), 9);
        DUE.is("equal() behind it", x.equal(), 1);
        x.reset(0);
        DUE.is("pack() as at first", x.pack(), first);
    }

    private static void packAndOpenAreAlike() {
        for (int order = 0; order <= 4; order++) {
            for (int how = 0; how <= 3; how++) {
                PpmTrees x = new PpmTrees(order, 8 + 97 * how * order);
                for (int i = 0; i < 6; i++) {
                    x.clear();
                    x.fill(30 + 45 * i, 1234567 * (i + 1), how);
                    int bytes = x.pack();
                    DUE.is("bytes of BITS", bytes, (x.told(0) + 7) / 8);
                    DUE.is("open()", x.open(), 30 + 45 * i);
                    DUE.is("what is read", Asked.row(x, 2), Asked.row(x, 0));
                    DUE.is("equal()", x.equal(), 1);
                    DUE.is("place()", x.place(), -3);
                    DUE.is("restarted", x.restarted(0), x.restarted(1));
                }
            }
        }
    }

    private static void openSeesBitsBehindTheEnd() {
        PpmTrees x = new PpmTrees(2, 400);
        DUE.is("open() of no OUT", x.open(), -11);
        x.fill(40, 3, 0);
        x.pack();
        x.cut(20);
        DUE.is("open() of half an OUT", x.open(), -11);
        DUE.is("place() of fault 1", x.place(), -3);
    }

    private static void openSeesTooManyBytes() {
        PpmTrees x = new PpmTrees(0, 8);
        Asked.addRepeated(x, 7, 300);
        x.pack();
        DUE.is("open() of 300 alike", x.open(), 300);
        // Of zeros the reader, which knows 7 alone, reads some hundred 7s a bit.
        for (int i = 0; i < x.size(1); i++) {
            x.alter(i, 0);
        }
        DUE.is("open() of zeros", x.open(), -12);
        DUE.is("place() of fault 2", x.place(), -3);
        DUE.is("THE RECEIVED is as before", x.size(2), 300);
        x.cut(0);
        DUE.is("open() of no OUT: fault 1 comes first", x.open(), -11);
    }

    private static void openSeesWhatNoWriterWrote() {
        PpmTrees x = new PpmTrees(2, 50);
        x.pack();
        x.alter(1, 65);
        DUE.is("open() of another last bit", x.open(), -13);
        DUE.is("place() of another last bit", x.place(), 1);
        x.alter(1, 64);
        x.cut(1);
        DUE.is("open() of a byte less", x.open(), -13);
        DUE.is("place(): how many it has", x.place(), 1);
        Asked.addAll(x, 1, 2, 3, 4);
        x.pack();
        x.alter(0, 255);
        x.alter(1, 64);
        DUE.is("open() of bytes more", x.open(), -13);
        DUE.is("place(): how many there should be", x.place(), 2);
        x.alter(1, 63);
        DUE.is("open() of a lesser byte 1", x.open(), -13);
        DUE.is("place() of a lesser byte 1", x.place(), 1);
        x.cut(2);
        x.alter(1, 64);
        DUE.is("open() of what should be", x.open(), 0);
        DUE.is("place() of no fault", x.place(), -3);
    }

    private static void toldIsOfTheLatestPack() {
        PpmTrees x = new PpmTrees(1, 8);
        for (int what : new int[] {-1, 3, MIN, MAX}) {
            DUE.is("told(" + what + ")", x.told(what), -1);
        }
        for (int what = 0; what <= 2; what++) {
            DUE.is("told(" + what + ") of none asked", x.told(what), -3);
        }
        // a, ab, bc, cd: 8 nodes; e finds no room. f comes alone then, and g behind it.
        Asked.addAll(x, 'a', 'b', 'c', 'd', 'e', 'f', 'g');
        x.pack();
        DUE.is("RESTARTS", x.told(2), 1);
        DUE.is("SIGNS round a restart", Asked.signs(x), "0/-3 1/-3 2/-3 3/-3 4/-3 0/-3 1/-3 2/-3");
        DUE.is("ESCAPES: of b, c, d, e, g, END", x.told(1), 6);
        DUE.is("the tree behind a restart", Asked.tree(x, 0),
            "-1/-1/0/0 0/102/1/1 0/103/1/1 1/103/1/2");
        x.clear();
        x.pack();
        DUE.is("RESTARTS of the next pack()", x.told(2), 0);
        DUE.is("ESCAPES of the next pack()", x.told(1), 1);
        for (int what : new int[] {-1, 3, MIN, MAX}) {
            DUE.is("told(" + what + ") behind pack()", x.told(what), -1);
        }
    }
}
