import java.util.Arrays;

/** Promises 12 to 22: what is asked of rows. */
public final class AskedRowsTest {
    private static final int INTS = 0;
    private static final int SIGNS = 2;
    private static final int BYTES = 3;

    private static final Check check = new Check();

    public static void main(String[] args) {
        length();
        at();
        search();
        searchPart();
        isEqual();
        isOne();
        order();
        mismatch();
        isEqualFrom();
        hash();
        text();
        sameHash();
        check.finish("AskedRowsTest");
    }

    private static void length() {
        Rowbench x = new Rowbench();
        for (int kind = 0; kind < 5; kind++) {
            for (int row = 0; row < 3; row++) {
                x.resize(kind, row, 3 * kind + row);
            }
        }
        for (int kind = 0; kind < 5; kind++) {
            for (int row = 0; row < 3; row++) {
                check.same("12: its own length", x.length(kind, row), 3 * kind + row);
            }
        }
        for (int no : Check.NO_KINDS) {
            check.noPlace("12: no kind", x, () -> x.length(no, 0));
        }
        for (int no : Check.NO_ROWS) {
            check.noPlace("12: no row", x, () -> x.length(INTS, no));
        }
    }

    private static void at() {
        for (int kind = 0; kind < 5; kind++) {
            int k = kind;
            Rowbench x = new Rowbench();
            Check.lay(x, k, 1, 4, 5, 6);
            x.resize(k, 1, 2);
            check.same("13: the first", x.at(k, 1, 0), 4);
            check.same("13: the last", x.at(k, 1, 1), 5);
            for (int no : new int[] {-1, 2, 24, Integer.MIN_VALUE, Integer.MAX_VALUE}) {
                check.noPlace("13: no place", x, () -> x.at(k, 1, no));
            }
            check.noPlace("13: no place in an empty row", x, () -> x.at(k, 0, 0));
        }
        Rowbench x = new Rowbench();
        for (int no : Check.NO_KINDS) {
            check.noPlace("13: no kind", x, () -> x.at(no, 0, 0));
        }
        for (int no : Check.NO_ROWS) {
            check.noPlace("13: no row", x, () -> x.at(INTS, no, 0));
        }
    }

    private static void search() {
        for (int kind = 0; kind < 5; kind++) {
            int k = kind;
            Rowbench x = new Rowbench();
            check.same("14: in an empty row", x.search(k, 0, 5), -1);
            Check.lay(x, k, 0, 2, 4, 4, 6);
            check.same("14: is there", x.search(k, 0, 6), 0);
            check.same("14: is there twice", x.search(k, 0, 4), 0);
            check.same("14: below all", x.search(k, 0, 1), -1);
            check.same("14: one is less", x.search(k, 0, 3), -2);
            check.same("14: three are less", x.search(k, 0, 5), -4);
            check.same("14: above all", x.search(k, 0, 7), -5);
            Check.lay(x, k, 0, 2, 4, 3);
            check.fallen("14: not sorted", x, () -> x.search(k, 0, 2));
            Check.lay(x, k, 0, 5, 4, 6);
            check.fallen("14: not sorted at the front", x, () -> x.search(k, 0, 9));
            Check.lay(x, k, 0, 7, 7);
            check.same("14: the same are sorted", x.search(k, 0, 8), -3);
        }
        Rowbench x = new Rowbench();
        Check.lay(x, SIGNS, 0, 65535, 0);
        check.noValue("14: no value goes ahead of not sorted", x, () -> x.search(SIGNS, 0, -1));
        for (int no : Check.NO_KINDS) {
            check.noPlace("14: no kind", x, () -> x.search(no, 0, 0));
        }
        for (int no : Check.NO_ROWS) {
            check.noPlace("14: no row goes ahead", x, () -> x.search(SIGNS, no, -1));
        }
    }

    private static void searchPart() {
        for (int kind = 0; kind < 5; kind++) {
            int k = kind;
            Rowbench x = new Rowbench();
            Check.lay(x, k, 0, 9, 2, 4, 6, 1);
            check.same("15: is there", x.searchPart(k, 0, 1, 4, 4), 0);
            check.same("15: is ahead of the part alone", x.searchPart(k, 0, 1, 4, 9), -5);
            check.same("15: is behind the part alone", x.searchPart(k, 0, 1, 4, 1), -2);
            check.same("15: two are less", x.searchPart(k, 0, 1, 4, 5), -4);
            check.same("15: in an empty part", x.searchPart(k, 0, 3, 3, 6), -4);
            check.same("15: in an empty part at the end", x.searchPart(k, 0, 5, 5, 1), -6);
            check.fallen("15: the front is not sorted", x, () -> x.searchPart(k, 0, 0, 4, 4));
            check.fallen("15: the end is not sorted", x, () -> x.searchPart(k, 0, 1, 5, 4));
            check.refused("15: from above to", x, () -> x.searchPart(k, 0, 4, 0, 4));
            check.refused("15: from below 0", x, () -> x.searchPart(k, 0, -1, 4, 4));
            check.refused("15: to above the end", x, () -> x.searchPart(k, 0, 0, 6, 4));
            check.refused("15: far", x, () -> x.searchPart(k, 0, Integer.MIN_VALUE, Integer.MAX_VALUE, 4));
        }
        Rowbench x = new Rowbench();
        Check.lay(x, BYTES, 0, 3, 1);
        check.noValue("15: no value goes ahead of no part", x, () -> x.searchPart(BYTES, 0, 1, 0, 128));
        check.noValue("15: no value goes ahead of not sorted", x, () -> x.searchPart(BYTES, 0, 0, 2, 128));
        for (int no : Check.NO_KINDS) {
            check.noPlace("15: no kind", x, () -> x.searchPart(no, 0, 1, 0, 0));
        }
        for (int no : Check.NO_ROWS) {
            check.noPlace("15: no row goes ahead", x, () -> x.searchPart(BYTES, no, 1, 0, 128));
        }
    }

    private static void isEqual() {
        for (int kind = 0; kind < 5; kind++) {
            int k = kind;
            Rowbench x = new Rowbench();
            check.same("16: both are empty", x.isEqual(k, 0, 1), true);
            Check.lay(x, k, 0, 1, 2);
            check.same("16: one is empty", x.isEqual(k, 0, 1), false);
            Check.lay(x, k, 1, 1, 2, 0);
            check.same("16: one is longer", x.isEqual(k, 0, 1), false);
            x.resize(k, 1, 2);
            check.same("16: the same values", x.isEqual(k, 0, 1), true);
            x.put(k, 1, 1, 3);
            check.same("16: the last is another", x.isEqual(k, 0, 1), false);
            check.same("16: itself", x.isEqual(k, 1, 1), true);
        }
        Rowbench x = new Rowbench();
        check.badPairs("16", x, (kind, row, other) -> x.isEqual(kind, row, other));
    }

    private static void isOne() {
        for (int kind = 0; kind < 5; kind++) {
            Rowbench x = new Rowbench();
            check.same("17: none are at first", x.isOne(kind, 0, 1), false);
            check.same("17: the same row", x.isOne(kind, 0, 0), true);
            x.share(kind, 2, 0);
            check.same("17: shared", x.isOne(kind, 0, 2), true);
            check.same("17: the other way round", x.isOne(kind, 2, 0), true);
            check.same("17: the third is not", x.isOne(kind, 1, 2), false);
            x.copy(kind, 0, 1);
            check.same("17: a copy is not", x.isOne(kind, 0, 1), false);
        }
        Rowbench x = new Rowbench();
        check.badPairs("17", x, (kind, row, other) -> x.isOne(kind, row, other));
    }

    private static void order() {
        for (int kind = 0; kind < 5; kind++) {
            Rowbench x = new Rowbench();
            check.same("18: both are empty", x.order(kind, 0, 1), 0);
            Check.lay(x, kind, 0, 1, 2);
            both("18: the empty one is ahead", x, kind, 1);
            Check.lay(x, kind, 1, 1, 2, 0);
            both("18: the shorter one is ahead", x, kind, -1);
            Check.lay(x, kind, 1, 1, 1, 9);
            both("18: the smaller value is ahead, though longer", x, kind, 1);
            Check.lay(x, kind, 1, 3);
            both("18: the smaller value is ahead of the shorter one", x, kind, -1);
            Check.lay(x, kind, 1, 1, 2);
            both("18: the same", x, kind, 0);
            check.same("18: itself", x.order(kind, 1, 1), 0);
        }
        Rowbench x = new Rowbench();
        int[] lowest = {Integer.MIN_VALUE, Integer.MIN_VALUE, 0, -128, -32768};
        int[] highest = {Integer.MAX_VALUE, Integer.MAX_VALUE, 65535, 127, 32767};
        for (int kind = 0; kind < 5; kind++) {
            Check.lay(x, kind, 0, lowest[kind]);
            Check.lay(x, kind, 1, highest[kind]);
            both("18: as numbers", x, kind, -1);
        }
        check.badPairs("18", x, (kind, row, other) -> x.order(kind, row, other));
    }

    private static void both(String what, Rowbench x, int kind, int due) {
        check.same(what, x.order(kind, 0, 1), due);
        check.same(what + " (the other way round)", x.order(kind, 1, 0), -due);
    }

    private static void mismatch() {
        for (int kind = 0; kind < 5; kind++) {
            Rowbench x = new Rowbench();
            check.same("19: both are empty", x.mismatch(kind, 0, 1), -1);
            Check.lay(x, kind, 0, 1, 2, 3);
            check.same("19: one is empty", x.mismatch(kind, 0, 1), 0);
            Check.lay(x, kind, 1, 1, 2);
            check.same("19: how long the shorter one is", x.mismatch(kind, 0, 1), 2);
            check.same("19: the other way round", x.mismatch(kind, 1, 0), 2);
            Check.lay(x, kind, 1, 1, 9);
            check.same("19: the first place", x.mismatch(kind, 0, 1), 1);
            Check.lay(x, kind, 1, 1, 2, 3);
            check.same("19: none", x.mismatch(kind, 0, 1), -1);
            check.same("19: itself", x.mismatch(kind, 1, 1), -1);
        }
        Rowbench x = new Rowbench();
        check.badPairs("19", x, (kind, row, other) -> x.mismatch(kind, row, other));
    }

    private static void isEqualFrom() {
        for (int kind = 0; kind < 5; kind++) {
            int k = kind;
            Rowbench x = new Rowbench();
            check.same("20: both are empty", x.isEqualFrom(k, 0, 0, 1, 0), true);
            Check.lay(x, k, 0, 1, 2, 3);
            Check.lay(x, k, 1, 2, 3);
            check.same("20: the same from there on", x.isEqualFrom(k, 0, 1, 1, 0), true);
            check.same("20: others", x.isEqualFrom(k, 0, 1, 1, 1), false);
            check.same("20: the same further on", x.isEqualFrom(k, 0, 1, 0, 1) && x.isEqualFrom(k, 0, 2, 1, 1), true);
            check.same("20: both at the end", x.isEqualFrom(k, 0, 3, 1, 2), true);
            check.same("20: one at the end", x.isEqualFrom(k, 0, 3, 1, 1), false);
            check.same("20: itself", x.isEqualFrom(k, 0, 2, 0, 2), true);
            x.put(k, 1, 1, 9);
            check.same("20: the last is another", x.isEqualFrom(k, 0, 1, 1, 0), false);
            notEqual(x, k, -1, 0);
            notEqual(x, k, 0, -1);
            notEqual(x, k, -1, -2);
            notEqual(x, k, 4, 2);
            notEqual(x, k, 3, 3);
            notEqual(x, k, 4, 3);
            notEqual(x, k, 30, -30);
            notEqual(x, k, -30, 30);
            for (int no : new int[] {31, -31, Integer.MIN_VALUE, Integer.MAX_VALUE}) {
                check.noValue("20: from is too far", x, () -> x.isEqualFrom(k, 0, no, 1, 0));
                check.noValue("20: from2 is too far", x, () -> x.isEqualFrom(k, 0, 0, 1, no));
            }
        }
        Rowbench x = new Rowbench();
        check.badPairs("20", x, (kind, row, other) -> x.isEqualFrom(kind, row, 31, other, 31));
    }

    /** What is refused is told as false, and not counted, as no number is told. */
    private static void notEqual(Rowbench x, int kind, int from, int from2) {
        String what = "20: refused " + from + " " + from2;
        check.asks(what, x, false, () -> x.isEqualFrom(kind, 0, from, 1, from2));
    }

    private static void hash() {
        Rowbench x = new Rowbench();
        check.same("21: of nothing", x.hash(0), 1);
        Check.lay(x, INTS, 2, 7);
        check.same("21: of one", x.hash(2), 38);
        Check.lay(x, INTS, 2, 1, -2);
        check.same("21: of two", x.hash(2), 990);
        Check.lay(x, INTS, 2, Integer.MAX_VALUE, Integer.MIN_VALUE, 3, -4, 5, 6);
        int due = Arrays.hashCode(new int[] {Integer.MAX_VALUE, Integer.MIN_VALUE, 3, -4, 5, 6});
        check.same("21: wraps around", x.hash(2), due);
        for (int no : Check.NO_ROWS) {
            check.noPlace("21: no row", x, () -> x.hash(no));
        }
    }

    private static void text() {
        Rowbench x = new Rowbench();
        check.same("22: of nothing", x.text(0), "[]");
        Check.lay(x, INTS, 1, 7);
        check.same("22: of one", x.text(1), "[7]");
        Check.lay(x, INTS, 1, 0, Integer.MIN_VALUE, Integer.MAX_VALUE);
        check.same("22: of three", x.text(1), "[0, -2147483648, 2147483647]");
        String kept = x.text(1);
        x.text(0);
        x.listText(0);
        check.same("22: a text that was told stays", kept, "[0, -2147483648, 2147483647]");
        for (int no : Check.NO_ROWS) {
            check.noPlace("22: no row", x, () -> x.text(no));
        }
    }

    /** Rows are held beside each other VALUE by VALUE: these have the same HASH, as 31 times 1 is 31. */
    private static void sameHash() {
        for (int kind = 0; kind < 5; kind++) {
            Rowbench x = new Rowbench();
            Check.lay(x, kind, 0, 5, 0, 31);
            Check.lay(x, kind, 1, 5, 1, 0);
            check.same("16: the same HASH", x.isEqual(kind, 0, 1), false);
            both("18: the same HASH", x, kind, -1);
            check.same("19: the same HASH", x.mismatch(kind, 0, 1), 1);
            check.same("20: the same HASH", x.isEqualFrom(kind, 0, 1, 1, 1), false);
        }
        Rowbench x = new Rowbench();
        Check.lay(x, INTS, 0, 5, 0, 31);
        Check.lay(x, INTS, 1, 5, 1, 0);
        check.same("21: the same HASH", x.hash(0), x.hash(1));
    }
}
