import java.lang.reflect.InvocationTargetException;
import java.lang.reflect.Method;
import java.lang.reflect.Modifier;
import java.util.Arrays;

/** No call throws, whatever its numbers are: each call by edges of all its numbers, on objects that go on. */
public final class ExtremesTest {
    private static final int[] FEW = {Integer.MIN_VALUE, -1, 0, 1, 5, 6, 40, Integer.MAX_VALUE};
    private static final int[] MANY = {Integer.MIN_VALUE, Integer.MIN_VALUE + 1, -129, -7, -6, -1, 0, 1, 2, 3, 4, 5, 6,
        7, 8, 9, 12, 13, 20, 21, 23, 24, 39, 40, 41, 59, 60, 61, 99, 100, 1 << 30, Integer.MAX_VALUE};
    private static final int CALLS_OF_ONE = 512;

    private static final Check check = new Check();
    private static DomeSlit x = new DomeSlit();
    private static int calls = 0;

    public static void main(String[] args) throws IllegalAccessException {
        for (Method method : DomeSlit.class.getDeclaredMethods()) {
            if (Modifier.isPublic(method.getModifiers())) {
                Integer[] numbers = new Integer[method.getParameterCount()];
                callByAll(method, numbers, 0);
            }
        }
        check.end();
    }

    private static void callByAll(Method method, Integer[] numbers, int from) throws IllegalAccessException {
        if (from == numbers.length) {
            callOnce(method, numbers);
            return;
        }
        for (int number : numbers.length > 3 ? FEW : MANY) {
            numbers[from] = number;
            callByAll(method, numbers, from + 1);
        }
    }

    private static void callOnce(Method method, Integer[] numbers) throws IllegalAccessException {
        if (calls % CALLS_OF_ONE == 0) {
            x = Bench.furnished();
        }
        calls++;
        try {
            method.invoke(x, (Object[]) numbers);
            check.holds("it ends", true);
        } catch (InvocationTargetException thrown) {
            check.holds(method + " by " + Arrays.toString(numbers) + " threw " + thrown.getCause(), false);
        }
    }
}
