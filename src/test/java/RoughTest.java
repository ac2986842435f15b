import java.lang.reflect.InvocationTargetException;
import java.lang.reflect.Method;
import java.lang.reflect.Modifier;
import java.util.ArrayList;
import java.util.Arrays;
import java.util.Comparator;
import java.util.List;
import java.util.Random;

/** Calls with any arguments in any state: none throws, each refusal is counted once and changes nothing else. */
public final class RoughTest {
    private static final int OBJECTS = 800;
    private static final int CALLS = 150;

    /** What an object may have behind it ahead of a step, which makes no more than 100 changes. */
    private static final int MOST_CHANGES = 400;

    private static final int[] EDGES = {Integer.MIN_VALUE, Integer.MIN_VALUE + 1, -2, -1, 0, 1, 2, 3, 4, 5, 6, 7, 8, 9,
        10, 11, 13, 14, 15, 40, 41, 99, 100, 101, 255, 256, 300, 301, 999, 1000, 1001, 9000, 9001, 9999, 10000, 1000000,
        1000001, Integer.MAX_VALUE - 1, Integer.MAX_VALUE};
    private static final String TEXT = "bend 0 1 2 3;pace 4;wet 1;grip 2;seen 0 5;gone 0 6;call 0 7 8;look 0 1;";

    private final Random random;
    private final Roof x = new Roof();

    private RoughTest(int seed) {
        random = new Random(seed);
    }

    public static void main(String[] args) throws IllegalAccessException {
        List<Method> methods = publicMethods();
        for (int seed = 0; seed < OBJECTS; seed++) {
            new RoughTest(seed).runAll(methods);
        }
        Check.end();
    }

    /** The calls of a Roof that are those of the class. */
    private static List<Method> publicMethods() {
        List<Method> methods = new ArrayList<>();
        for (Method method : Roof.class.getDeclaredMethods()) {
            for (Method other : OnTheRoof.class.getDeclaredMethods()) {
                boolean isSame = other.getName().equals(method.getName())
                        && Arrays.equals(other.getParameterTypes(), method.getParameterTypes());
                if (isSame && Modifier.isPublic(other.getModifiers())) {
                    methods.add(method);
                }
            }
        }
        methods.sort(Comparator.comparing(Method::getName));
        Check.due("calls of the class", methods.size(), 60);
        return methods;
    }

    private void runAll(List<Method> methods) throws IllegalAccessException {
        for (int i = 0; i < CALLS && x.changes() < MOST_CHANGES; i++) {
            if (random.nextInt(4) == 0) {
                feedSome();
            } else if (random.nextInt(4) == 0) {
                x.bend(random.nextInt(6), random.nextInt(10), 1 + random.nextInt(999), random.nextInt(1001));
            }
            makeCall(methods.get(random.nextInt(methods.size())));
        }
    }

    private void feedSome() {
        int from = random.nextInt(TEXT.length());
        int to = from + random.nextInt(TEXT.length() - from);
        Ways.feedAll(x, TEXT.substring(random.nextBoolean() ? 0 : from, to));
        if (random.nextInt(3) == 0) {
            x.feed(random.nextInt(256));
        }
    }

    private void makeCall(Method method) throws IllegalAccessException {
        Object[] given = new Object[method.getParameterCount()];
        for (int i = 0; i < given.length; i++) {
            Class<?> type = method.getParameterTypes()[i];
            if (type == boolean.class) {
                given[i] = random.nextBoolean();
            } else if (type == long.class) {
                given[i] = random.nextBoolean() ? random.nextLong() : (long) anyNumber();
            } else {
                given[i] = anyNumber();
            }
        }
        String call = method.getName() + Arrays.toString(given);
        String before = Ways.picture(x);
        int refused = refusals();
        try {
            method.invoke(x, given);
        } catch (InvocationTargetException e) {
            Check.that(call + " threw " + e.getCause(), false);
            return;
        }
        int more = refusals() - refused;
        Check.that(call + " is refused once at most", more == 0 || more == 1);
        if (more == 1 && !method.getName().equals("way")) {
            Check.that(call + " was refused and changed nothing", before.equals(Ways.picture(x)));
        }
    }

    private int anyNumber() {
        return random.nextInt(3) == 0 ? EDGES[random.nextInt(EDGES.length)]
                : random.nextInt(20) == 0 ? random.nextInt() : random.nextInt(6);
    }

    private int refusals() {
        int all = 0;
        for (int what = 12; what <= 16; what++) {
            all += x.status(what);
        }
        return all;
    }
}
