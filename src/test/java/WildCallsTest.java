import java.lang.reflect.InvocationTargetException;
import java.lang.reflect.Method;
import java.lang.reflect.Modifier;
import java.util.Arrays;
import java.util.Comparator;
import java.util.Random;

/**
 * Rule 7 of LANGUAGE.md: no call throws for any arguments in any state, but node() of a NODE
 * that is not there; and calls that are refused, or only ask, change nothing.
 */
public final class WildCallsTest {
    private static final Due DUE = new Due("WildCallsTest");
    private static final int[] WILD = {
        Integer.MIN_VALUE, Integer.MIN_VALUE + 1, -65536, -301, -4, -3, -2, -1, 0, 1, 2, 3, 4, 5, 7,
        8, 255, 256, 257, 299, 300, 301, 1499, 1500, 1501, 2484, 65535, 65536, 1 << 30,
        Integer.MAX_VALUE - 1, Integer.MAX_VALUE
    };
    private static final String ASKING = " size octet place told sign nodes node latest restarted equal cost ";

    private WildCallsTest() {
    }

    public static void main(String[] args) throws IllegalAccessException {
        Method[] calls = Arrays.stream(PpmTrees.class.getDeclaredMethods())
            .filter(WildCallsTest::isPublic).toArray(Method[]::new);
        Arrays.sort(calls, Comparator.comparing(Method::getName));
        for (int seed = 0; seed < 300 && !DUE.tooMany(); seed++) {
            wildRun(calls, new Random(seed));
        }
        DUE.end();
    }

    private static boolean isPublic(Method m) {
        return Modifier.isPublic(m.getModifiers());
    }

    private static int wild(Random random) {
        int kind = random.nextInt(4);
        return kind == 0 ? random.nextInt() : kind == 1 ? random.nextInt(12)
            : WILD[random.nextInt(WILD.length)];
    }

    private static void wildRun(Method[] calls, Random random) throws IllegalAccessException {
        PpmTrees x = new PpmTrees(wild(random), wild(random));
        for (int i = 0; i < 512; i++) {
            Method call = calls[random.nextInt(calls.length)];
            Object[] arguments = new Object[call.getParameterCount()];
            for (int a = 0; a < arguments.length; a++) {
                arguments[a] = wild(random);
            }
            boolean looked = i % 16 == 0;
            String before = looked ? Asked.all(x) : "";
            int answer = answer(x, call, arguments);
            if (looked && mustChangeNothing(call, answer)) {
                DUE.is("all behind " + call.getName() + Arrays.toString(arguments), Asked.all(x), before);
            }
        }
    }

    private static boolean mustChangeNothing(Method call, int answer) {
        boolean refused = answer >= PpmTrees.NO && answer <= PpmTrees.BAD || answer == Asked.THROWS;
        return refused || ASKING.contains(" " + call.getName() + " ");
    }

    private static int answer(PpmTrees x, Method call, Object[] arguments)
        throws IllegalAccessException {
        try {
            int answer = (Integer) call.invoke(x, arguments);
            DUE.holds(call.getName() + Arrays.toString(arguments) + " answers " + answer,
                answer >= -13 && answer < 25000);
            return answer;
        } catch (InvocationTargetException e) {
            Throwable thrown = e.getCause();
            boolean due = call.getName().equals("node")
                && thrown.getClass() == ArrayIndexOutOfBoundsException.class
                && "no such node".equals(thrown.getMessage());
            DUE.holds(call.getName() + Arrays.toString(arguments) + " threw " + thrown, due);
            return Asked.THROWS;
        }
    }
}
