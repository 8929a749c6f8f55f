import java.lang.reflect.InvocationTargetException;
import java.lang.reflect.Method;
import java.lang.reflect.Modifier;
import java.util.ArrayList;
import java.util.Comparator;
import java.util.List;
import java.util.Random;

/**
 * Any calls in any order with any arguments, far beyond the 512th: none throws, and the same calls always give the
 * same answers (LANGUAGE.md, 7 and 13).
 */
public final class WildTest {
    private static final Due DUE = new Due("WildTest");
    private static final int OBJECTS = 150;
    private static final int CALLS = 3000;
    private static final int[] EDGES = {Integer.MIN_VALUE, Integer.MIN_VALUE + 1, -65536, -10, -2, -1, 99, 100, 400,
        999, 1000, 9999, 10000, 65535, 65536, 1234567, 76543210, Integer.MAX_VALUE - 1, Integer.MAX_VALUE};
    private static final String[] BITS = {"bids", "step", "full", " 9", "*weight", "/ 3", "+day", "-purse", " when ",
        "not ", "(", ")", "crowd>5", " and ", " or ", ";", "bidder 1 ", "follows 0;", "wants 3 for 9;", "on 1 ",
        "sell 1;", "police;", "pay 0 9;", "bill 0 5;", "wet 3;", "\n", "#", "12345"};

    private WildTest() {
    }

    public static void main(String[] args) throws Exception {
        List<Method> face = new ArrayList<>();
        for (Method m : MockParcels.class.getDeclaredMethods()) {
            if (Modifier.isPublic(m.getModifiers())) {
                face.add(m);
            }
        }
        // The machine tells them in any order.
        face.sort(Comparator.comparing(Method::getName));
        for (int seed = 0; seed < OBJECTS; seed++) {
            run(face, seed);
        }
        DUE.end();
    }

    private static void run(List<Method> face, int seed) throws Exception {
        Random random = new Random(seed);
        MockParcels one = new MockParcels();
        MockParcels other = new MockParcels();
        for (int i = 0; i < CALLS; i++) {
            if (random.nextInt(25) == 0) {
                feed(random, one, other);
            }
            Method m = face.get(random.nextInt(face.size()));
            Object[] given = new Object[m.getParameterCount()];
            for (int k = 0; k < given.length; k++) {
                given[k] = m.getParameterTypes()[k] == int.class ? (Object) any(random)
                    : (Object) random.nextBoolean();
            }
            String call = "seed " + seed + ", call " + i + ": " + m.getName() + List.of(given);
            DUE.is(call, answer(m, one, given).equals(answer(m, other, given)), true);
        }
    }

    private static int any(Random random) {
        return switch (random.nextInt(8)) {
            case 0 -> EDGES[random.nextInt(EDGES.length)];
            case 1 -> random.nextInt(70);
            case 2 -> random.nextInt(1100);
            default -> random.nextInt(9);
        };
    }

    /** What lies on the TAPE, then a text of bits that may stand together or not. */
    private static void feed(Random random, MockParcels one, MockParcels other) {
        StringBuilder text = new StringBuilder();
        for (int n = random.nextInt(30); n > 0 && text.length() < 380; n--) {
            text.append(BITS[random.nextInt(BITS.length)]);
        }
        if (random.nextInt(3) == 0) {
            text = new StringBuilder("on 1 sell 1;on 2 sell 2;on 2 police;on 0 sell 0;");
        }
        int k = random.nextInt(4);
        one.end(0);
        other.end(0);
        DUE.is("text of " + text, Due.text(one, k, text.toString()), Due.text(other, k, text.toString()));
    }

    private static String answer(Method m, MockParcels x, Object[] given) throws Exception {
        try {
            return m.invoke(x, given).toString();
        } catch (InvocationTargetException thrown) {
            DUE.is(m.getName() + List.of(given) + " threw " + thrown.getCause(), true, false);
            return "thrown";
        }
    }
}
