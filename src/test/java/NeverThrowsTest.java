import java.lang.reflect.InvocationTargetException;
import java.lang.reflect.Method;
import java.lang.reflect.Modifier;
import java.util.Arrays;
import java.util.Comparator;
import java.util.Random;
import java.util.Set;

/**
 * LANGUAGE.md rule 7: no call throws, for any arguments in any state. Drawn calls, with a fixed seed,
 * on objects that live far longer than the 512 calls whose answers are promised.
 */
public final class NeverThrowsTest {
    private static final int OBJECTS = 40;
    private static final int CALLS = 20000;
    private static final String SIGNS = "0123456789>>>+-,,,";
    /** Calls that empty what others fill: made rarely, so that it gets full. */
    private static final Set<String> RARE = Set.of("configure", "setCells", "clearInput", "runInput", "advance", "answer");

    private static final Due DUE = new Due();
    private static final Random RANDOM = new Random(20011L);

    public static void main(String[] args) throws IllegalAccessException {
        Method[] face = Arrays.stream(ScanDetector.class.getDeclaredMethods())
            .filter(method -> Modifier.isPublic(method.getModifiers()))
            .sorted(Comparator.comparing(Method::getName)) // reflection promises no order, and the draw shall not change
            .toArray(Method[]::new);
        for (int i = 0; i < OBJECTS && DUE.wrongSoFar() < 20; i++) {
            ScanDetector x = new ScanDetector();
            for (int n = 0; n < CALLS && DUE.wrongSoFar() < 20; n++) {
                call(x, face[RANDOM.nextInt(face.length)]);
            }
        }
        DUE.end();
    }

    private static void call(ScanDetector x, Method method) throws IllegalAccessException {
        if (RARE.contains(method.getName()) && RANDOM.nextInt(20) > 0) {
            return;
        }
        Object[] arguments = new Object[method.getParameterCount()];
        for (int i = 0; i < arguments.length; i++) {
            boolean flag = method.getParameterTypes()[i] == boolean.class;
            arguments[i] = flag ? (Object) RANDOM.nextBoolean() : (Object) draw(method.getName(), i);
        }
        try {
            method.invoke(x, arguments);
            DUE.isTrue(method.getName(), true);
        } catch (InvocationTargetException e) {
            DUE.fail(method.getName() + Arrays.toString(arguments) + " threw " + e.getCause());
        }
    }

    private static int draw(String name, int place) {
        int kind = RANDOM.nextInt(16);
        if (kind == 0) {
            return EdgeCases.FAR[RANDOM.nextInt(EdgeCases.FAR.length)];
        }
        if (kind == 1) {
            return RANDOM.nextInt();
        }
        if (name.equals("append")) {
            return SIGNS.charAt(RANDOM.nextInt(SIGNS.length()));
        }
        if (name.equals("configure") && place >= 2) {
            return (place == 2 ? 1 : -1) * RANDOM.nextInt(62);
        }
        return kind < 10 ? RANDOM.nextInt(10) : RANDOM.nextInt(64) - 2;
    }
}
