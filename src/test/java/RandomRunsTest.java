import java.util.Random;

/** Promises 1 to 23: runs of random calls, each answer compared with that of PlainTrees. */
public final class RandomRunsTest {
    private static final int RUNS = 400;
    private static final int CALLS = 512;
    private static final int[] ODD = {
        -1, 0, 1, 2, 3, 4, 5, 255, 256, 257, 299, 300, 301, 1500,
        Integer.MAX_VALUE, Integer.MIN_VALUE, -2, 1000000
    };
    private static final int[] ROOMS = {-3, 8, 9, 12, 20, 40, 100, 300, 1499, 1500, 1501, 99999};

    private final Due due;
    private final Random random;
    private final int run;
    private final PpmTrees x;
    private final PlainTrees plain;

    private RandomRunsTest(Due due, int run) {
        this.due = due;
        this.run = run;
        random = new Random(run);
        int order = random.nextInt(8) - 1;
        int room = ROOMS[random.nextInt(ROOMS.length)];
        x = new PpmTrees(order, room);
        plain = new PlainTrees(order, room);
    }

    public static void main(String[] args) {
        Due due = new Due("RandomRunsTest");
        for (int run = 0; run < RUNS && !due.tooMany(); run++) {
            new RandomRunsTest(due, run).go();
        }
        // Runs that never came to these would say nothing of them.
        for (int fault = 0; fault <= 3; fault++) {
            due.holds("fault " + fault + " came often", PlainTrees.FAULTS[fault] > 200);
        }
        due.holds("counts were halved often", PlainTrees.halved > 200);
        due.end();
    }

    private void go() {
        for (int call = 0; call < CALLS && !due.tooMany(); call++) {
            oneCall();
        }
        for (int end = 0; end <= 1; end++) {
            due.is("run " + run + " tree " + end, Asked.tree(x, end), plain.tree(end));
        }
        for (int which = 0; which <= 2; which++) {
            for (int i = -1; i <= x.size(which); i++) {
                answer("octet", x.octet(which, i), plain.octet(which, i), which, i);
            }
        }
        for (int i = -1; i <= 301; i++) {
            answer("sign", x.sign(i, 0), plain.sign(i, 0), i, 0);
            answer("sign", x.sign(i, 1), plain.sign(i, 1), i, 1);
        }
    }

    private void answer(String call, int got, int want, int... arguments) {
        StringBuilder s = new StringBuilder("run " + run + " " + call);
        for (int a : arguments) {
            s.append(' ').append(a);
        }
        due.is(s.toString(), got, want);
    }

    private int some(int bound) {
        return random.nextInt(20) == 0 ? ODD[random.nextInt(ODD.length)] : random.nextInt(bound);
    }

    private void oneCall() {
        int kind = random.nextInt(100);
        if (kind < 30) {
            aboutBytes();
        } else if (kind < 55) {
            aboutSaying();
        } else {
            aboutModels();
        }
    }

    private void aboutBytes() {
        int a = some(257);
        int b = some(256);
        int c = some(4);
        switch (random.nextInt(9)) {
            case 0 -> answer("add", x.add(a), plain.add(a), a);
            case 1, 2, 3 -> {
                int n = some(random.nextInt(4) == 0 ? 301 : 40);
                int seed = random.nextBoolean() ? random.nextInt() : a;
                answer("fill", x.fill(n, seed, c), plain.fill(n, seed, c), n, seed, c);
            }
            case 4 -> answer("size", x.size(c), plain.size(c), c);
            case 5 -> answer("octet", x.octet(c, a), plain.octet(c, a), c, a);
            case 6 -> {
                int i = random.nextInt(3) == 0 ? a : random.nextInt(Math.max(1, x.size(1)));
                answer("alter", x.alter(i, b), plain.alter(i, b), i, b);
            }
            case 7 -> {
                int n = x.size(1) - some(5);
                answer("cut", x.cut(n), plain.cut(n), n);
            }
            default -> {
                if (random.nextInt(3) == 0) {
                    answer("clear", x.clear(), plain.clear());
                }
            }
        }
    }

    private void aboutSaying() {
        int a = some(302);
        int b = some(3);
        switch (random.nextInt(8)) {
            case 0 -> answer("pack", x.pack(), plain.pack());
            case 1 -> {
                answer("pack", x.pack(), plain.pack());
                answer("open", x.open(), plain.open());
            }
            case 2 -> answer("open", x.open(), plain.open());
            case 3 -> {
                answer("open", x.open(), plain.open());
                answer("place", x.place(), plain.place());
            }
            case 4 -> answer("place", x.place(), plain.place());
            case 5 -> answer("told", x.told(b), plain.told(b), b);
            default -> answer("sign", x.sign(a, b), plain.sign(a, b), a, b);
        }
    }

    private void aboutModels() {
        int end = some(2);
        int a = some(257);
        int b = some(4);
        switch (random.nextInt(16)) {
            case 0 -> answer("nodes", x.nodes(end), plain.nodes(end), end);
            case 1, 2, 3 -> answer("node", Asked.node(x, end, a, b), plain.node(end, a, b), end, a, b);
            case 4, 5 -> answer("latest", x.latest(end, b), plain.latest(end, b), end, b);
            case 6 -> answer("restarted", x.restarted(end), plain.restarted(end), end);
            case 7 -> {
                if (random.nextInt(6) == 0) {
                    answer("reset", x.reset(end), plain.reset(end), end);
                }
            }
            case 8, 9 -> answer("equal", x.equal(), plain.equal());
            case 10 -> answer("save", x.save(end), plain.save(end), end);
            case 11, 12 -> answer("restore", x.restore(end, b), plain.restore(end, b), end, b);
            case 13 -> {
                if (random.nextInt(4) == 0) {
                    answer("forget", x.forget(), plain.forget());
                }
            }
            default -> answer("cost", x.cost(end, a), plain.cost(end, a), end, a);
        }
    }
}
