import java.lang.reflect.Array;
import java.lang.reflect.InvocationTargetException;
import java.lang.reflect.Method;
import java.util.Arrays;
import java.util.Collections;
import java.util.List;

/**
 * The bench of the document once more, over real arrays of the five kinds and java.util.Arrays: an
 * answer to hold Rowbench against. The library's own exceptions are what the document calls REFUSED.
 */
final class LibraryBench {
    private static final int REFUSED = -99;
    private static final Class<?>[] KINDS = {int.class, long.class, char.class, byte.class, short.class};
    private static final long LONG_FACTOR = 1000000000L;

    private final Object[][] rows = new Object[5][3];
    private final Integer[][] boxes = new Integer[2][6];
    private final List<List<Integer>> lists;
    private int knocks = 0;
    private int refusals = 0;

    LibraryBench() {
        for (int kind = 0; kind < 5; kind++) {
            for (int row = 0; row < 3; row++) {
                rows[kind][row] = Array.newInstance(KINDS[kind], 0);
            }
        }
        Arrays.fill(boxes[0], 0);
        Arrays.fill(boxes[1], 0);
        lists = List.of(Arrays.asList(boxes[0]), Arrays.asList(boxes[1]));
    }

    // ---- the library, called by the kind's types

    private static Object library(String name, Class<?>[] types, Object... values) {
        try {
            Method method = Arrays.class.getMethod(name, types);
            return method.invoke(null, values);
        } catch (InvocationTargetException e) {
            throw (RuntimeException) e.getCause();
        } catch (ReflectiveOperationException e) {
            throw new AssertionError(e);
        }
    }

    private static Class<?>[] types(Class<?>... types) {
        return types;
    }

    private static Object wrapped(int kind, int value) {
        switch (kind) {
            case 0:
                return value;
            case 1:
                return value * LONG_FACTOR;
            case 2:
                return (char) value;
            case 3:
                return (byte) value;
            default:
                return (short) value;
        }
    }

    private static int unwrapped(int kind, Object value) {
        switch (kind) {
            case 1:
                return (int) ((Long) value / LONG_FACTOR);
            case 2:
                return (Character) value;
            default:
                return ((Number) value).intValue();
        }
    }

    private interface Library {
        int answer();
    }

    private int orRefused(Library call) {
        try {
            return call.answer();
        } catch (RuntimeException e) {
            refusals++;
            return REFUSED;
        }
    }

    // ---- exceptions of the document

    private Object row(int kind, int row) {
        if (kind < 0 || kind > 4 || row < 0 || row > 2) {
            throw new IndexOutOfBoundsException();
        }
        return rows[kind][row];
    }

    private void value(int kind, int value) {
        if (kind > 1 && unwrapped(kind, wrapped(kind, value)) != value) {
            throw new IllegalArgumentException();
        }
    }

    private static void allowed(boolean isAllowed) {
        if (!isAllowed) {
            throw new IllegalArgumentException();
        }
    }

    private static boolean isNear(int place) {
        return place >= -30 && place <= 30;
    }

    private List<Integer> list(int row) {
        if (row < 0 || row > 1) {
            throw new IndexOutOfBoundsException();
        }
        return lists.get(row);
    }

    private void listPlace(int row, int place) {
        list(row);
        if (place < 0 || place > 5) {
            throw new IndexOutOfBoundsException();
        }
    }

    private static Class<?> type(Object row) {
        return row.getClass();
    }

    // ---- the face

    int resize(int kind, int row, int length) {
        Object old = row(kind, row);
        allowed(length <= 24);
        return orRefused(() -> {
            rows[kind][row] = library("copyOf", types(type(old), int.class), old, length);
            return Array.getLength(old);
        });
    }

    int range(int kind, int row, int other, int from, int to) {
        Object source = row(kind, row);
        row(kind, other);
        allowed(isNear(from) && isNear(to) && to - from <= 24);
        return orRefused(() -> {
            rows[kind][other] = library("copyOfRange", types(type(source), int.class, int.class), source, from, to);
            return length(kind, other);
        });
    }

    int copy(int kind, int row, int other) {
        row(kind, other);
        return range(kind, row, other, 0, length(kind, row));
    }

    int share(int kind, int row, int other) {
        boolean wereOne = isOne(kind, row, other);
        rows[kind][other] = rows[kind][row];
        return wereOne ? 1 : 0;
    }

    int put(int kind, int row, int place, int value) {
        Object changed = row(kind, row);
        value(kind, value);
        return orRefused(() -> {
            int old = unwrapped(kind, Array.get(changed, place));
            Array.set(changed, place, wrapped(kind, value));
            return old;
        });
    }

    int fill(int kind, int row, int value) {
        row(kind, row);
        return fillPart(kind, row, 0, length(kind, row), value);
    }

    int fillPart(int kind, int row, int from, int to, int value) {
        Object changed = row(kind, row);
        value(kind, value);
        return orRefused(() -> {
            library("fill", types(type(changed), int.class, int.class, KINDS[kind]), changed, from, to,
                    wrapped(kind, value));
            return to - from;
        });
    }

    int ramp(int row, int start, int step) {
        int[] changed = (int[]) row(0, row);
        Arrays.setAll(changed, k -> start + step * k);
        return changed.length;
    }

    int sort(int kind, int row) {
        return sortPart(kind, row, 0, length(kind, row));
    }

    int sortPart(int kind, int row, int from, int to) {
        Object changed = row(kind, row);
        return orRefused(() -> {
            library("sort", types(type(changed), int.class, int.class), changed, from, to);
            return to - from;
        });
    }

    int length(int kind, int row) {
        return Array.getLength(row(kind, row));
    }

    int at(int kind, int row, int place) {
        if (place < 0 || place >= length(kind, row)) {
            throw new IndexOutOfBoundsException();
        }
        return unwrapped(kind, Array.get(rows[kind][row], place));
    }

    int search(int kind, int row, int value) {
        return searchPart(kind, row, 0, length(kind, row), value);
    }

    int searchPart(int kind, int row, int from, int to, int value) {
        Object searched = row(kind, row);
        value(kind, value);
        for (int place = Math.max(1, from + 1); from >= 0 && to <= length(kind, row) && place < to; place++) {
            if (at(kind, row, place - 1) > at(kind, row, place)) {
                throw new IllegalStateException();
            }
        }
        return orRefused(() -> Math.min(0, (Integer) library("binarySearch",
                types(type(searched), int.class, int.class, KINDS[kind]), searched, from, to, wrapped(kind, value))));
    }

    boolean isEqual(int kind, int row, int other) {
        Object first = row(kind, row);
        return (Boolean) library("equals", types(type(first), type(first)), first, row(kind, other));
    }

    boolean isOne(int kind, int row, int other) {
        return row(kind, row) == row(kind, other);
    }

    int order(int kind, int row, int other) {
        Object first = row(kind, row);
        return Integer.signum((Integer) library("compare", types(type(first), type(first)), first, row(kind, other)));
    }

    int mismatch(int kind, int row, int other) {
        Object first = row(kind, row);
        return (Integer) library("mismatch", types(type(first), type(first)), first, row(kind, other));
    }

    boolean isEqualFrom(int kind, int row, int from, int other, int from2) {
        Object first = row(kind, row);
        Object second = row(kind, other);
        allowed(isNear(from) && isNear(from2));
        try {
            return (Boolean) library("equals",
                    types(type(first), int.class, int.class, type(first), int.class, int.class),
                    first, from, Array.getLength(first), second, from2, Array.getLength(second));
        } catch (RuntimeException e) {
            return false;
        }
    }

    int hash(int row) {
        return Arrays.hashCode((int[]) row(0, row));
    }

    String text(int row) {
        return Arrays.toString((int[]) row(0, row));
    }

    int putBox(int row, int place, int value) {
        list(row);
        return orRefused(() -> {
            int old = boxes[row][place];
            boxes[row][place] = value;
            return old;
        });
    }

    int putList(int row, int place, int value) {
        listPlace(row, place);
        return list(row).set(place, value);
    }

    int addList(int row, int value) {
        List<Integer> list = list(row);
        return orRefused(() -> list.add(value) ? 1 : 0);
    }

    int sortBoxes(int row, boolean isFalling) {
        list(row);
        Arrays.sort(boxes[row], isFalling ? Collections.reverseOrder() : null);
        return boxes[row][0];
    }

    int boxAt(int row, int place, boolean isList) {
        listPlace(row, place);
        return isList ? list(row).get(place) : boxes[row][place];
    }

    int sizeOf(int row) {
        return list(row).size();
    }

    int indexOf(int row, int value, boolean isLast) {
        return isLast ? list(row).lastIndexOf(value) : list(row).indexOf(value);
    }

    boolean contains(int row, int value) {
        return list(row).contains(value);
    }

    boolean areListsEqual() {
        return list(0).equals(list(1));
    }

    int listHash(int row) {
        return list(row).hashCode();
    }

    String listText(int row) {
        return list(row).toString();
    }

    int knock() {
        return ++knocks;
    }

    int house(int what) {
        allowed(what >= 0 && what <= 3);
        int places = 0;
        int pairs = 0;
        for (int kind = 0; kind < 5; kind++) {
            for (int row = 0; row < 3; row++) {
                places += length(kind, row);
                pairs += isOne(kind, row, (row + 1) % 3) ? 1 : 0;
            }
        }
        return new int[] {places, knocks, refusals, pairs}[what];
    }

    boolean isSound() {
        return true;
    }

    long digest() {
        long d = 7709;
        for (int what = 0; what < 4; what++) {
            d = d * 31 + house(what);
        }
        for (int kind = 0; kind < 5; kind++) {
            for (int row = 0; row < 3; row++) {
                d = d * 31 + length(kind, row);
                for (int place = 0; place < length(kind, row); place++) {
                    d = d * 31 + at(kind, row, place);
                }
            }
        }
        for (int kind = 0; kind < 5; kind++) {
            d = pairDigest(pairDigest(pairDigest(d, kind, 0, 1), kind, 0, 2), kind, 1, 2);
        }
        for (int row = 0; row < 3; row++) {
            d = (d * 31 + hash(row)) * 31 + text(row).length();
        }
        for (int row = 0; row < 2; row++) {
            for (int number : list(row)) {
                d = d * 31 + number;
            }
            d = (d * 31 + listHash(row)) * 31 + listText(row).length();
        }
        return (d * 31 + (areListsEqual() ? 1 : 0)) * 31 + 1;
    }

    private long pairDigest(long before, int kind, int row, int other) {
        long d = before * 31 + order(kind, row, other);
        d = d * 31 + mismatch(kind, row, other);
        return d * 31 + (isOne(kind, row, other) ? 1 : 0);
    }
}
