import java.lang.reflect.InvocationTargetException;
import java.lang.reflect.Method;

/**
 * All promises: long runs of calls, each answer and each digest held against LibraryBench. The runs
 * are the same each time.
 */
public final class LibraryRunsTest {
    private static final int RUNS = 400;
    private static final int CALLS = 512;

    /** A method, and what its arguments mean. */
    private static final String[] CALLED = {
        "resize kind row length", "resize kind row length", "resize kind row length",
        "range kind row row near near", "copy kind row row", "share kind row row", "put kind row place value",
        "put kind row place value", "put kind row place value", "fill kind row value",
        "fillPart kind row place place value", "ramp row value value", "sort kind row",
        "sortPart kind row place place", "length kind row", "at kind row place", "search kind row value",
        "searchPart kind row place place value", "isEqual kind row row", "isOne kind row row", "order kind row row",
        "mismatch kind row row", "isEqualFrom kind row near row near", "hash row", "text row",
        "putBox box six value", "putList box six value", "addList box value", "sortBoxes box is", "boxAt box six is",
        "sizeOf box", "indexOf box value is", "contains box value", "areListsEqual", "listHash box", "listText box",
        "knock", "house what", "isSound", "digest"
    };
    private static final int[] EDGES = {
        Integer.MIN_VALUE, Integer.MAX_VALUE, 65535, 65536, -1, 127, 128, -128, -129, 32767, 32768, -32768, -32769, -99
    };

    private static final Check check = new Check();
    private static long seed = 20;

    public static void main(String[] args) {
        for (int run = 0; run < RUNS; run++) {
            seed = seed * 31 + run;
            // In some runs all is of few kinds, rows and values, so that more of it meets.
            runOnce(run, run % 6, run % 2 == 0);
        }
        check.finish("LibraryRunsTest");
    }

    private static void runOnce(int run, int onlyKind, boolean isNarrow) {
        Rowbench x = new Rowbench();
        LibraryBench due = new LibraryBench();
        for (int call = 0; call < CALLS / 2; call++) {
            String[] words = CALLED[below(CALLED.length)].split(" ");
            Object[] values = new Object[words.length - 1];
            StringBuilder told = new StringBuilder("run " + run + " call " + call + ": " + words[0]);
            for (int k = 0; k < values.length; k++) {
                values[k] = argument(words[k + 1], onlyKind, isNarrow);
                told.append(' ').append(values[k]);
            }
            check.same(told.toString(), outcome(x, words[0], values), outcome(due, words[0], values));
            check.same(told + ", digest", x.digest(), due.digest());
        }
    }

    private static Object outcome(Object bench, String name, Object[] values) {
        Class<?>[] types = new Class<?>[values.length];
        for (int k = 0; k < values.length; k++) {
            types[k] = values[k] instanceof Boolean ? boolean.class : int.class;
        }
        try {
            Method method = bench.getClass().getDeclaredMethod(name, types);
            return method.invoke(bench, values);
        } catch (InvocationTargetException e) {
            return "throws." + e.getCause().getClass().getSimpleName();
        } catch (ReflectiveOperationException e) {
            throw new AssertionError(e);
        }
    }

    private static Object argument(String word, int onlyKind, boolean isNarrow) {
        int wide = below(40) == 0 ? 1 : 0;
        switch (word) {
            case "kind":
                return onlyKind < 5 && wide == 0 ? onlyKind : between(-wide, 4 + wide);
            case "row":
                return between(-wide, 2 + wide);
            case "box":
                return between(-wide, 1 + wide);
            case "what":
                return between(-wide, 3 + wide);
            case "length":
                return isNarrow && wide == 0 ? between(2, 5) : between(-2, 26);
            case "place":
                return isNarrow ? between(-wide, 4 + wide) : between(-1, 25);
            case "near":
                return isNarrow && wide == 0 ? between(0, 5) : between(-32, 32);
            case "six":
                return between(-wide, 5 + wide);
            case "is":
                return below(2) == 0;
            default:
                return below(isNarrow ? 40 : 4) == 0 ? EDGES[below(EDGES.length)] : between(0, isNarrow ? 2 : 120);
        }
    }

    private static int between(int least, int most) {
        return least + below(most - least + 1);
    }

    private static int below(int bound) {
        seed = seed * 6364136223846793005L + 1442695040888963407L;
        return (int) Math.floorMod(seed >>> 33, (long) bound);
    }
}
