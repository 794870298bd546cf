import java.lang.reflect.InvocationTargetException;
import java.lang.reflect.Method;
import java.nio.charset.StandardCharsets;
import java.util.Arrays;

/** Calls by name, on the class and on the model, and texts fed to an object. */
final class Calls {
    private Calls() {
    }

    /** What the call answers, as a text; an exception as throws. and its name. */
    static String answer(Object on, String name, int... arguments) {
        Method method = Arrays.stream(on.getClass().getDeclaredMethods())
            .filter(m -> m.getName().equals(name) && takes(m, arguments.length)).findFirst().orElseThrow();
        try {
            Object[] boxed = Arrays.stream(arguments).boxed().toArray();
            boolean row = method.isVarArgs();
            return String.valueOf(row ? method.invoke(on, (Object) arguments) : method.invoke(on, boxed));
        } catch (InvocationTargetException e) {
            return "throws." + e.getCause().getClass().getSimpleName();
        } catch (IllegalAccessException e) {
            throw new AssertionError(e);
        }
    }

    private static boolean takes(Method method, int many) {
        return method.isVarArgs() || method.getParameterCount() == many;
    }

    /** The numbers that feed a text, five for each twenty bytes, the last ones filled with 0. */
    static int[][] feeds(String text) {
        byte[] bytes = text.getBytes(StandardCharsets.ISO_8859_1);
        int[][] rows = new int[(bytes.length + 19) / 20][5];
        for (int i = 0; i < bytes.length; i++) {
            rows[i / 20][i % 20 / 4] |= (bytes[i] & 255) << 24 - 8 * (i % 4);
        }
        return rows;
    }

    static void feedText(FavourBeasts x, String text) {
        for (int[] row : feeds(text)) {
            x.feed(row[0], row[1], row[2], row[3], row[4]);
        }
    }
}
