/**
 * The least and the greatest VALUE of each KIND, one less and one more, and VALUES that could be
 * taken for an answer of another meaning. The sentence of the document that is tested stands over
 * each test.
 */
public final class ValueEdgesTest {
    private static final int INTS = 0;
    private static final int LONGS = 1;
    private static final int SIGNS = 2;
    private static final int BYTES = 3;
    private static final int SHORTS = 4;
    private static final int LEAST_INT = Integer.MIN_VALUE;
    private static final int MOST_INT = Integer.MAX_VALUE;

    private static final Check check = new Check();

    public static void main(String[] args) {
        valuesOf(INTS, LEAST_INT, MOST_INT);
        valuesOf(LONGS, LEAST_INT, MOST_INT);
        valuesOf(SIGNS, 0, 65535);
        valuesOf(BYTES, -128, 127);
        valuesOf(SHORTS, -32768, 32767);
        noValuesOf(SIGNS, -1, 65536, -99, -32768, LEAST_INT, MOST_INT);
        noValuesOf(BYTES, -129, 128, 255, 65535, LEAST_INT, MOST_INT);
        noValuesOf(SHORTS, -32769, 32768, 65535, LEAST_INT, MOST_INT);
        orderOfInts(INTS);
        orderOfInts(LONGS);
        orderAsNumbers(SIGNS, 0, 1, 32767, 32768, 65534, 65535);
        orderAsNumbers(BYTES, -128, -127, -1, 0, 126, 127);
        orderAsNumbers(SHORTS, -32768, -32767, -1, 0, 32766, 32767);
        longsThatWouldWrap();
        refusedAsAValue();
        noneAsAValue();
        check.finish("ValueEdgesTest");
    }

    private static Rowbench bench(int kind, int... values) {
        Rowbench x = new Rowbench();
        Check.lay(x, kind, 0, values);
        return x;
    }

    /** 1. Rows, VALUES: the last ones that are allowed, in each method that takes one. */
    private static void valuesOf(int kind, int lowest, int highest) {
        for (int value : new int[] {lowest, lowest + 1, highest - 1, highest}) {
            String what = value + " of kind " + kind;
            Rowbench x = bench(kind, 1, 1, 1);
            check.answers("6: was 1", x, 1, () -> x.put(kind, 0, 1, value));
            check.same("13: " + what, x.at(kind, 0, 1), value);
            check.answers("6: was " + what, x, value, () -> x.put(kind, 0, 1, 1));
            check.answers("7: takes " + what, x, 3, () -> x.fill(kind, 0, value));
            check.same("7: all are " + what, Check.row(x, kind, 0), Check.values(value, value, value));
            check.asks("14: finds " + what, x, 0, () -> x.search(kind, 0, value));
            Rowbench y = bench(kind, 1, 1, 1);
            check.answers("8: takes " + what, y, 1, () -> y.fillPart(kind, 0, 1, 2, value));
            check.same("8: one is " + what, Check.row(y, kind, 0), Check.values(1, value, 1));
            check.asks("15: finds " + what, y, 0, () -> y.searchPart(kind, 0, 1, 2, value));
            keptBy(kind, value);
        }
    }

    /** What becomes another row keeps them. */
    private static void keptBy(int kind, int value) {
        Rowbench x = bench(kind, value);
        x.resize(kind, 0, 2);
        check.same("2: keeps", Check.row(x, kind, 0), Check.values(value, 0));
        x.range(kind, 0, 1, 0, 2);
        check.same("3: keeps", Check.row(x, kind, 1), Check.values(value, 0));
        x.copy(kind, 0, 2);
        check.same("4: keeps", Check.row(x, kind, 2), Check.values(value, 0));
        x.sort(kind, 0);
        int least = Math.min(value, 0);
        check.same("10: keeps", Check.row(x, kind, 0), Check.values(least, value - least));
    }

    /** "Throws IllegalArgumentException if value is no VALUE of that KIND", of promises 6, 7, 8, 14, 15. */
    private static void noValuesOf(int kind, int... values) {
        for (int value : values) {
            String what = value + " of kind " + kind;
            Rowbench x = bench(kind, 1, 2, 3);
            check.noValue("6: " + what, x, () -> x.put(kind, 0, 0, value));
            check.noValue("7: " + what, x, () -> x.fill(kind, 0, value));
            check.noValue("8: " + what, x, () -> x.fillPart(kind, 0, 0, 3, value));
            check.noValue("14: " + what, x, () -> x.search(kind, 0, value));
            check.noValue("15: " + what, x, () -> x.searchPart(kind, 0, 0, 3, value));
            // Also where none would be put, and none is looked at.
            check.noValue("6: nowhere " + what, x, () -> x.put(kind, 1, 0, value));
            check.noValue("7: nowhere " + what, x, () -> x.fill(kind, 1, value));
            check.noValue("8: nowhere " + what, x, () -> x.fillPart(kind, 1, 0, 0, value));
            check.noValue("14: nowhere " + what, x, () -> x.search(kind, 1, value));
            check.noValue("15: nowhere " + what, x, () -> x.searchPart(kind, 1, 0, 0, value));
            check.same("35: none was refused", x.house(2), 0);
        }
    }

    /** 1. Rows: "of INTS and LONGS all numbers of 32 bits"; differences of these do not fit into 32 bits. */
    private static void orderOfInts(int kind) {
        orderAsNumbers(kind, LEAST_INT, LEAST_INT + 1, -1, 0, 1, MOST_INT - 1, MOST_INT);
    }

    /** 1. Rows: "All are in ORDER as numbers." The values are rising. */
    private static void orderAsNumbers(int kind, int... values) {
        int count = values.length;
        for (int first = 0; first < count; first++) {
            for (int other = 0; other < count; other++) {
                Rowbench x = bench(kind, values[first]);
                Check.lay(x, kind, 1, values[other]);
                String what = values[first] + " and " + values[other] + " of kind " + kind;
                check.asks("18: " + what, x, Integer.compare(first, other), () -> x.order(kind, 0, 1));
                check.asks("16: " + what, x, first == other, () -> x.isEqual(kind, 0, 1));
                check.asks("19: " + what, x, first == other ? -1 : 0, () -> x.mismatch(kind, 0, 1));
                check.asks("20: " + what, x, first == other, () -> x.isEqualFrom(kind, 0, 0, 1, 0));
                int due = first == other ? 0 : other < first ? -2 : -1;
                int value = values[first];
                check.asks("14: " + what, x, due, () -> x.search(kind, 1, value));
                check.asks("15: " + what, x, due, () -> x.searchPart(kind, 1, 0, 1, value));
            }
        }
        sortedAsNumbers(kind, values);
        fallenAsNumbers(kind, values);
    }

    /** 10, 11: the same of a row that falls from the greatest to the least. */
    private static void sortedAsNumbers(int kind, int[] values) {
        int count = values.length;
        Rowbench x = new Rowbench();
        x.resize(kind, 0, count);
        for (int place = 0; place < count; place++) {
            x.put(kind, 0, place, values[count - 1 - place]);
        }
        x.copy(kind, 0, 1);
        x.sort(kind, 0);
        check.same("10: as numbers, kind " + kind, Check.row(x, kind, 0), Check.values(values));
        x.sortPart(kind, 1, 0, count);
        check.same("11: as numbers, kind " + kind, Check.row(x, kind, 1), Check.values(values));
        for (int place = 0; place < count; place++) {
            int value = values[place];
            check.asks("14: is there", x, 0, () -> x.search(kind, 0, value));
            // Instead of it there is the one before it once more, which is less too.
            x.put(kind, 1, place, values[place == 0 ? 1 : place - 1]);
            check.same("14: is not there", x.search(kind, 1, value), place == 0 ? -1 : -1 - (place + 1));
            x.put(kind, 1, place, value);
        }
    }

    /** 14, 15: "one stands ahead of a smaller one": of two of them, wherever the first is greater. */
    private static void fallenAsNumbers(int kind, int[] values) {
        for (int first = 0; first < values.length; first++) {
            for (int second = 0; second < values.length; second++) {
                int value = values[second];
                Rowbench x = bench(kind, values[first], value);
                if (first > second) {
                    check.fallen("14: " + values[first] + " " + value, x, () -> x.search(kind, 0, value));
                    check.fallen("15: " + values[first] + " " + value, x, () -> x.searchPart(kind, 0, 0, 2, value));
                } else {
                    check.asks("14: " + values[first] + " " + value, x, 0, () -> x.search(kind, 0, value));
                    check.asks("15: " + values[first] + " " + value, x, 0, () -> x.searchPart(kind, 0, 0, 2, value));
                }
            }
        }
    }

    /** 1. Rows: "(a LONG is kept as that number times 1000000000)": it is told as that number. */
    private static void longsThatWouldWrap() {
        // Times 1000000000 these differ in more than 32 bits, and the lower 32 bits of some are the same.
        int[] values = {LEAST_INT, -1073741824, -8388608, -3, -2, -1, 0, 1, 2, 3, 8388608, 1073741824, MOST_INT};
        orderAsNumbers(LONGS, values);
        Rowbench x = bench(LONGS, values);
        check.same("13: told as they were put", Check.row(x, LONGS, 0), Check.values(values));
    }

    /** Description: "REFUSED is -99 [...] (it may be a VALUE as well)": then house() 2 stays as it is. */
    private static void refusedAsAValue() {
        for (int kind : new int[] {INTS, LONGS, BYTES, SHORTS}) {
            Rowbench x = bench(kind, -99, -99);
            check.asks("13: REFUSED as a VALUE", x, -99, () -> x.at(kind, 0, 0));
            check.asks("14: REFUSED as a VALUE", x, 0, () -> x.search(kind, 0, -99));
            check.answers("6: REFUSED as a VALUE", x, -99, () -> x.put(kind, 0, 0, 1));
            check.refused("6: REFUSED, beside such a VALUE", x, () -> x.put(kind, 0, 2, -99));
        }
        Rowbench x = new Rowbench();
        x.putBox(0, 0, -99);
        check.answers("23: REFUSED as a number", x, -99, () -> x.putBox(0, 0, -99));
        check.answers("24: REFUSED as a number", x, -99, () -> x.putList(0, 0, -99));
        check.answers("26: REFUSED as a number", x, -99, () -> x.sortBoxes(0, false));
        check.asks("27: REFUSED as a number", x, -99, () -> x.boxAt(0, 0, false));
        check.same("35: none was refused", x.house(2), 0);
    }

    /** Description: "NONE is -1", which may be a VALUE too, and is no sign of an end. */
    private static void noneAsAValue() {
        for (int kind : new int[] {INTS, LONGS, BYTES, SHORTS}) {
            Rowbench x = bench(kind, -1, -1, -1);
            check.same("12: as long as it is", x.length(kind, 0), 3);
            check.asks("13: NONE as a VALUE", x, -1, () -> x.at(kind, 0, 2));
            check.asks("14: NONE as a VALUE", x, 0, () -> x.search(kind, 0, -1));
            x.copy(kind, 0, 1);
            check.asks("19: the same", x, -1, () -> x.mismatch(kind, 0, 1));
            x.put(kind, 1, 2, 0);
            check.asks("19: at the last place", x, 2, () -> x.mismatch(kind, 0, 1));
        }
    }
}
