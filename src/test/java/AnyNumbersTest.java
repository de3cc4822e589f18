import java.lang.reflect.Method;
import java.lang.reflect.Modifier;
import java.util.Arrays;
import java.util.Comparator;
import java.util.Random;

/** No call throws or fails to end, whatever numbers it is given, in whatever state. */
public final class AnyNumbersTest {
    private static final int[] NUMBERS = {
        Integer.MIN_VALUE, Integer.MIN_VALUE + 1, -100000, -1000, -999, -2, -1, 0, 1, 2, 3, 4, 5, 6, 7, 8, 9, 10, 11,
        17, 18, 32, 39, 40, 41, 59, 60, 97, 99, 100, 255, 256, 999, 1000, 99999, 100000,
        Integer.MAX_VALUE - 40, Integer.MAX_VALUE - 4, Integer.MAX_VALUE - 3, Integer.MAX_VALUE - 1, Integer.MAX_VALUE};

    public static void main(String[] args) throws IllegalAccessException {
        Method[] calls = Arrays.stream(BetweenThisAndThat.class.getDeclaredMethods())
                .filter(each -> Modifier.isPublic(each.getModifiers()))
                .sorted(Comparator.comparing(Method::getName))
                .toArray(Method[]::new);
        Random lot = new Random(1);
        for (int run = 0; run < 2000; run++) {
            BetweenThisAndThat x = new BetweenThisAndThat();
            for (int i = 0; i < 512; i++) {
                Method call = calls[lot.nextInt(calls.length)];
                Object[] numbers = new Object[call.getParameterCount()];
                for (int k = 0; k < numbers.length; k++) {
                    numbers[k] = lot.nextInt(4) == 0 ? NUMBERS[lot.nextInt(NUMBERS.length)] : lot.nextInt(12);
                }
                try {
                    call.invoke(x, numbers);
                } catch (java.lang.reflect.InvocationTargetException thrown) {
                    System.out.println(call.getName() + Arrays.toString(numbers) + " threw " + thrown.getCause());
                    System.exit(1);
                }
            }
        }
        System.out.println(calls.length + " methods called with any numbers: none threw");
    }
}
