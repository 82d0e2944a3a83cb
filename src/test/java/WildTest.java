import java.lang.reflect.InvocationTargetException;
import java.lang.reflect.Method;
import java.lang.reflect.Modifier;
import java.util.Arrays;
import java.util.Comparator;
import java.util.Random;

/** Any calls with any numbers in any state, far beyond the 512 promised ones: none may throw. */
public final class WildTest {
    private static final Checks C = new Checks();
    private static final int[] FAR = {Integer.MIN_VALUE, Integer.MIN_VALUE + 1, -1000001, -41, -1, 4, 8, 9, 24, 25, 39, 40,
        41, 60, 61, 99, 100, 255, 256, 999999, 1000000, Integer.MAX_VALUE - 1, Integer.MAX_VALUE};

    public static void main(String[] args) throws IllegalAccessException {
        Method[] calls = Arrays.stream(LoveParts.class.getDeclaredMethods())
            .filter(m -> Modifier.isPublic(m.getModifiers()))
            .sorted(Comparator.comparing(Method::getName))
            .toArray(Method[]::new);
        for (int seed = 1; seed <= 60 && !C.anyWrong(); seed++) {
            run(calls, new Random(seed));
        }
        C.end("WildTest");
    }

    private static void run(Method[] calls, Random random) throws IllegalAccessException {
        LoveParts x = new LoveParts();
        for (int n = 0; n < 3000 && !C.anyWrong(); n++) {
            if (random.nextInt(200) == 0) {
                Checks.tell(x, "k9,99,9,1;j9,9;s9,9;i9,9;j0,0;".substring(0, 9 + 5 * random.nextInt(5)));
            }
            Method call = calls[random.nextInt(calls.length)];
            Object[] numbers = new Object[call.getParameterCount()];
            for (int i = 0; i < numbers.length; i++) {
                numbers[i] = random.nextInt(4) == 0 ? FAR[random.nextInt(FAR.length)] : random.nextInt(12);
            }
            if (call.getName().equals("realm") && random.nextInt(4) != 0) {
                continue;
            }
            String told = call.getName() + Arrays.toString(numbers);
            try {
                call.invoke(x, numbers);
                C.isTrue(told, true);
            } catch (InvocationTargetException e) {
                C.isTrue(told + " threw " + e.getCause(), false);
            }
        }
    }
}
