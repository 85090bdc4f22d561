import java.lang.reflect.InvocationTargetException;
import java.lang.reflect.Method;
import java.lang.reflect.Modifier;
import java.util.NoSuchElementException;

/** Every call with the outermost numbers, in three unlike foams: nothing but what the document names is thrown. */
public final class ExtremesTest {
    private static final int[] NUMBERS = {Integer.MIN_VALUE, -1000000, -2, -1, 0, 1, 2, 5, 47, 48, 143, 144, 1000000,
        Integer.MAX_VALUE};
    private static int wrong = 0;

    public static void main(String[] args) throws IllegalAccessException {
        for (Method m : FoamCells.class.getDeclaredMethods()) {
            if (Modifier.isPublic(m.getModifiers())) {
                for (int kind = 0; kind < 3; kind++) {
                    callAll(m, foam(kind), new Object[m.getParameterCount()], 0);
                }
            }
        }
        System.out.println(wrong == 0 ? "nothing else is thrown" : wrong + " calls throw what they must not");
        if (wrong != 0) {
            System.exit(1);
        }
    }

    private static FoamCells foam(int kind) {
        FoamCells f = new FoamCells();
        if (kind == 1) {
            for (int k = 0; k < 32; k++) {
                f.cut(k, 0, 1 + k % 3 % 2);
            }
            f.shake(5, 99, 99);
        }
        if (kind == 2) {
            f.ring(3, 3);
            for (int k = 0; k < 200; k++) {
                f.burst(k % 27);
                f.shake(k, 5, 99);
                f.vanish(k % 9);
            }
        }
        return f;
    }

    private static void callAll(Method m, FoamCells f, Object[] row, int at) throws IllegalAccessException {
        if (at < row.length) {
            for (int n : NUMBERS) {
                // the fifth number of five is never a foam's: fewer do
                if (row.length < 5 || n > -3 && n < 48) {
                    row[at] = n;
                    callAll(m, f, row, at + 1);
                }
            }
            return;
        }
        try {
            m.invoke(f, row);
        } catch (InvocationTargetException e) {
            boolean named = m.getName().equals("cell") || m.getName().equals("side");
            if (!named || !(e.getCause() instanceof NoSuchElementException)) {
                wrong++;
                System.out.println(m.getName() + java.util.Arrays.toString(row) + ": " + e.getCause());
            }
        }
    }
}
