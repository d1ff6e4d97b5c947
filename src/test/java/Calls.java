import java.lang.reflect.Method;
import java.util.Arrays;

/** Calls by name, so that tests can hold them in tables. */
final class Calls {
    private Calls() {
    }

    static long answer(Object on, String name, Object... numbers) {
        Class<?>[] kinds = new Class<?>[numbers.length];
        Arrays.fill(kinds, int.class);
        try {
            Method method = on.getClass().getMethod(name, kinds);
            return ((Number) method.invoke(on, numbers)).longValue();
        } catch (ReflectiveOperationException e) {
            throw new IllegalStateException(told(name, numbers), e);
        }
    }

    static String told(String name, Object... numbers) {
        String all = Arrays.toString(numbers);
        return name + "(" + all.substring(1, all.length() - 1) + ")";
    }

    static void type(PosterSheet sheet, String text) {
        for (char c : text.toCharArray()) {
            sheet.type(c);
        }
    }
}
