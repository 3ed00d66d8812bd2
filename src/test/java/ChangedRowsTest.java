/** Promises 1 to 11: a new object, and how rows are changed. */
public final class ChangedRowsTest {
    private static final int INTS = 0;
    private static final int LONGS = 1;
    private static final int SIGNS = 2;
    private static final int BYTES = 3;
    private static final int SHORTS = 4;

    private static final Check check = new Check();

    public static void main(String[] args) {
        newObject();
        resize();
        range();
        copy();
        share();
        becomingEndsOneness();
        put();
        valuesOfKinds();
        fill();
        fillPart();
        ramp();
        sort();
        sortPart();
        check.finish("ChangedRowsTest");
    }

    private static void newObject() {
        Rowbench x = new Rowbench();
        check.same("1: all is empty", Check.told(x), ";".repeat(15) + "[0, 0, 0, 0, 0, 0][0, 0, 0, 0, 0, 0]0");
        for (int what = 0; what <= 3; what++) {
            check.same("1: house " + what, x.house(what), 0);
        }
        new Rowbench().knock();
        check.same("1: objects have nothing in common", x.house(1), 0);
    }

    private static void resize() {
        for (int kind = 0; kind < 5; kind++) {
            Rowbench x = new Rowbench();
            check.same("2: from nothing", x.resize(kind, 1, 3), 0);
            check.same("2: 0 at first", Check.row(x, kind, 1), "0 0 0");
            x.fill(kind, 1, 7);
            check.same("2: longer", x.resize(kind, 1, 5), 3);
            check.same("2: 0 behind", Check.row(x, kind, 1), "7 7 7 0 0");
            check.same("2: shorter", x.resize(kind, 1, 2), 5);
            check.same("2: cut", Check.row(x, kind, 1), "7 7");
            x.resize(kind, 1, 4);
            check.same("2: what was cut is gone", Check.row(x, kind, 1), "7 7 0 0");
            check.same("2: to the most", x.resize(kind, 1, 24), 4);
            check.same("2: all of them", x.length(kind, 1), 24);
            check.same("2: to nothing", x.resize(kind, 1, 0), 24);
            check.same("2: none", x.length(kind, 1), 0);
            check.same("2: other rows are as they were", x.length(kind, 0) + x.length(kind, 2), 0);
        }
        Rowbench x = new Rowbench();
        Check.lay(x, INTS, 0, 1, 2);
        check.refused("2: below 0", x, () -> x.resize(INTS, 0, -1));
        check.refused("2: far below 0", x, () -> x.resize(INTS, 0, Integer.MIN_VALUE));
        check.noValue("2: above 24", x, () -> x.resize(INTS, 0, 25));
        check.noValue("2: far above 24", x, () -> x.resize(INTS, 0, Integer.MAX_VALUE));
        for (int no : Check.NO_KINDS) {
            check.noPlace("2: no kind goes ahead", x, () -> x.resize(no, 0, 25));
            check.noPlace("2: no kind goes ahead of REFUSED", x, () -> x.resize(no, 0, -1));
        }
        for (int no : Check.NO_ROWS) {
            check.noPlace("2: no row goes ahead", x, () -> x.resize(INTS, no, 25));
            check.noPlace("2: no row goes ahead of REFUSED", x, () -> x.resize(INTS, no, -1));
        }
    }

    private static void range() {
        for (int kind = 0; kind < 5; kind++) {
            Rowbench x = new Rowbench();
            Check.lay(x, kind, 0, 1, 2, 3, 4);
            check.same("3: inside", x.range(kind, 0, 1, 1, 3), 2);
            check.same("3: what stands there", Check.row(x, kind, 1), "2 3");
            check.same("3: beyond the end", x.range(kind, 0, 1, 2, 6), 4);
            check.same("3: 0 behind", Check.row(x, kind, 1), "3 4 0 0");
            check.same("3: behind the end alone", x.range(kind, 0, 2, 4, 6), 2);
            check.same("3: 0 alone", Check.row(x, kind, 2), "0 0");
            check.same("3: nothing", x.range(kind, 0, 2, 4, 4), 0);
            check.same("3: no place", Check.row(x, kind, 2), "");
            check.same("3: the source is as it was", Check.row(x, kind, 0), "1 2 3 4");
            check.same("3: the most", x.range(kind, 0, 2, 0, 24), 24);
            check.same("3: of itself", x.range(kind, 0, 0, 1, 5), 4);
            check.same("3: itself", Check.row(x, kind, 0), "2 3 4 0");
        }
        Rowbench x = new Rowbench();
        Check.lay(x, INTS, 0, 1, 2, 3, 4);
        Check.lay(x, INTS, 1, 8);
        check.refused("3: from above to", x, () -> x.range(INTS, 0, 1, 3, 2));
        check.refused("3: from below 0", x, () -> x.range(INTS, 0, 1, -1, 2));
        check.refused("3: from above the end", x, () -> x.range(INTS, 0, 1, 5, 6));
        check.refused("3: from at the farthest", x, () -> x.range(INTS, 0, 1, 30, 30));
        check.refused("3: both at the farthest below", x, () -> x.range(INTS, 0, 1, -30, -30));
        check.refused("3: from far above to", x, () -> x.range(INTS, 0, 1, 30, -30));
        check.refused("3: 24 between, from below 0", x, () -> x.range(INTS, 0, 1, -1, 23));
        check.noValue("3: 25 between, from below 0", x, () -> x.range(INTS, 0, 1, -1, 24));
        check.noValue("3: 25 between", x, () -> x.range(INTS, 0, 1, 0, 25));
        check.noValue("3: from is 31", x, () -> x.range(INTS, 0, 1, 31, 30));
        check.noValue("3: from is -31", x, () -> x.range(INTS, 0, 1, -31, -31));
        check.noValue("3: to is 31", x, () -> x.range(INTS, 0, 1, 10, 31));
        check.noValue("3: to is -31", x, () -> x.range(INTS, 0, 1, 0, -31));
        check.noValue("3: to is very far", x, () -> x.range(INTS, 0, 1, Integer.MIN_VALUE, Integer.MAX_VALUE));
        for (int no : Check.NO_ROWS) {
            check.noPlace("3: no row", x, () -> x.range(INTS, no, 0, 0, 31));
            check.noPlace("3: no other row", x, () -> x.range(INTS, 0, no, 0, 31));
            check.noPlace("3: no other row, ahead of REFUSED", x, () -> x.range(INTS, 0, no, 2, 1));
        }
        for (int no : Check.NO_KINDS) {
            check.noPlace("3: no kind", x, () -> x.range(no, 0, 0, 0, 31));
        }
    }

    private static void copy() {
        for (int kind = 0; kind < 5; kind++) {
            Rowbench x = new Rowbench();
            Check.lay(x, kind, 0, 5, 6, 7);
            Check.lay(x, kind, 2, 1, 1, 1, 1, 1);
            check.same("4: places", x.copy(kind, 0, 2), 3);
            check.same("4: a copy", Check.row(x, kind, 2), "5 6 7");
            check.same("4: is not one", x.isOne(kind, 0, 2), false);
            x.put(kind, 2, 0, 9);
            check.same("4: the first is as it was", Check.row(x, kind, 0), "5 6 7");
            check.same("4: of itself", x.copy(kind, 0, 0), 3);
            check.same("4: itself", Check.row(x, kind, 0), "5 6 7");
            check.same("4: of nothing", x.copy(kind, 1, 0), 0);
            check.same("4: nothing", Check.row(x, kind, 0), "");
        }
        Rowbench x = new Rowbench();
        check.badPairs("4", x, (kind, row, other) -> x.copy(kind, row, other));
    }

    private static void share() {
        for (int kind = 0; kind < 5; kind++) {
            Rowbench x = new Rowbench();
            Check.lay(x, kind, 0, 5, 6);
            Check.lay(x, kind, 1, 9, 9, 9);
            check.same("5: were not one", x.share(kind, 0, 1), 0);
            check.same("5: the other one is the first", Check.row(x, kind, 1), "5 6");
            check.same("5: are one", x.isOne(kind, 0, 1), true);
            check.same("5: were one", x.share(kind, 0, 1), 1);
            check.same("5: were one the other way round", x.share(kind, 1, 0), 1);
            check.same("5: itself", x.share(kind, 2, 2), 1);
            x.put(kind, 1, 0, 8);
            check.same("5: put in both", Check.row(x, kind, 0), "8 6");
            x.sort(kind, 0);
            check.same("5: sorted in both", Check.row(x, kind, 1), "6 8");
            x.fill(kind, 1, 3);
            check.same("5: filled in both", Check.row(x, kind, 0), "3 3");
            x.fillPart(kind, 0, 1, 2, 4);
            check.same("5: a part in both", Check.row(x, kind, 1), "3 4");
            x.put(kind, 0, 0, 9);
            x.sortPart(kind, 1, 0, 2);
            check.same("5: a part sorted in both", Check.row(x, kind, 0), "4 9");
            check.same("5: the third joins", x.share(kind, 1, 2), 0);
            check.same("5: all are one", x.house(3), 3);
            check.same("5: the first and the third", x.isOne(kind, 0, 2), true);
        }
        Rowbench x = new Rowbench();
        x.resize(INTS, 0, 2);
        x.share(INTS, 0, 2);
        x.ramp(2, 4, 1);
        check.same("5: told by a rule in both", Check.row(x, INTS, 0), "4 5");
        check.same("5: of another kind none are", x.isOne(LONGS, 0, 2), false);
        Check.lay(x, INTS, 1, 7);
        check.same("5: leaves one for another", x.share(INTS, 1, 2), 0);
        check.same("5: left", x.isOne(INTS, 0, 2), false);
        check.same("5: the one that was left", Check.row(x, INTS, 0), "4 5");
        check.same("5: the one that came", Check.row(x, INTS, 2), "7");
        check.badPairs("5", x, (kind, row, other) -> x.share(kind, row, other));
    }

    /** The words on ONE: what becomes another row leaves those with which it was; what is refused does not. */
    private static void becomingEndsOneness() {
        for (int kind = 0; kind < 5; kind++) {
            for (int leaver = 0; leaver < 3; leaver++) {
                int k = kind;
                int l = leaver;
                leaves("resize", k, l, x -> x.resize(k, l, 2));
                leaves("copy of itself", k, l, x -> x.copy(k, l, l));
                leaves("copy of one with it", k, l, x -> x.copy(k, (l + 1) % 3, l));
                leaves("range of itself", k, l, x -> x.range(k, l, l, 0, 2));
                leaves("range of one with it", k, l, x -> x.range(k, (l + 2) % 3, l, 0, 2));
            }
        }
        Rowbench x = allOne(INTS);
        check.refused("2: stays one", x, () -> x.resize(INTS, 0, -1));
        check.refused("3: stays one", x, () -> x.range(INTS, 0, 1, 3, 3));
        check.noValue("3: stays one after an exception", x, () -> x.range(INTS, 0, 1, 0, 31));
        check.same("5: all are one still", x.house(3), 3);
        x.copy(INTS, 0, 0);
        check.same("4: two are one still", x.house(3), 1);
        x.copy(INTS, 1, 1);
        check.same("4: none are one", x.house(3), 0);
        for (int row = 0; row < 3; row++) {
            x.fill(INTS, row, row);
        }
        check.same("4: each has its own", x.text(0) + x.text(1) + x.text(2), "[0, 0][1, 1][2, 2]");
    }

    private interface Change {
        int of(Rowbench x);
    }

    private static Rowbench allOne(int kind) {
        Rowbench x = new Rowbench();
        Check.lay(x, kind, 0, 5, 6);
        x.share(kind, 0, 1);
        x.share(kind, 1, 2);
        return x;
    }

    private static void leaves(String what, int kind, int leaver, Change change) {
        Rowbench x = allOne(kind);
        int left = (leaver + 1) % 3;
        int alsoLeft = (leaver + 2) % 3;
        check.same(what + " answers", change.of(x), 2);
        check.same(what + " leaves", x.isOne(kind, leaver, left) || x.isOne(kind, leaver, alsoLeft), false);
        check.same(what + " leaves those as one", x.isOne(kind, left, alsoLeft), true);
        x.put(kind, leaver, 0, 1);
        x.put(kind, left, 1, 2);
        check.same(what + ": its own", Check.row(x, kind, leaver), "1 6");
        check.same(what + ": those", Check.row(x, kind, alsoLeft), "5 2");
    }

    private static void put() {
        for (int kind = 0; kind < 5; kind++) {
            int k = kind;
            Rowbench x = new Rowbench();
            x.resize(k, 2, 3);
            check.same("6: was 0", x.put(k, 2, 2, 9), 0);
            check.same("6: was 9", x.put(k, 2, 2, 4), 9);
            check.same("6: there alone", Check.row(x, k, 2), "0 0 4");
            check.refused("6: behind the end", x, () -> x.put(k, 2, 3, 1));
            check.refused("6: below 0", x, () -> x.put(k, 2, -1, 1));
            check.refused("6: far", x, () -> x.put(k, 2, Integer.MAX_VALUE, 1));
            check.refused("6: in an empty row", x, () -> x.put(k, 0, 0, 1));
        }
        Rowbench x = new Rowbench();
        x.resize(BYTES, 0, 1);
        x.put(BYTES, 0, 0, -99);
        check.same("6: REFUSED may be a value", x.put(BYTES, 0, 0, 1), -99);
        check.same("6: which was not refused", x.house(2), 0);
        check.noValue("6: no value goes ahead of no place", x, () -> x.put(BYTES, 0, 9, 128));
        for (int no : Check.NO_KINDS) {
            check.noPlace("6: no kind goes ahead", x, () -> x.put(no, 0, 9, 1));
        }
        for (int no : Check.NO_ROWS) {
            check.noPlace("6: no row goes ahead", x, () -> x.put(BYTES, no, 9, 128));
        }
    }

    /** The edges of the values of each kind, in all methods that take a value. */
    private static void valuesOfKinds() {
        int[] lowest = {Integer.MIN_VALUE, Integer.MIN_VALUE, 0, -128, -32768};
        int[] highest = {Integer.MAX_VALUE, Integer.MAX_VALUE, 65535, 127, 32767};
        for (int kind = 0; kind < 5; kind++) {
            int k = kind;
            Rowbench x = new Rowbench();
            x.resize(k, 0, 1);
            for (int value : new int[] {lowest[k], highest[k]}) {
                x.put(k, 0, 0, value);
                check.same("6: " + value, x.at(k, 0, 0), value);
                x.fill(k, 0, 0);
                x.fill(k, 0, value);
                check.same("7: " + value, x.at(k, 0, 0), value);
                x.fill(k, 0, 0);
                x.fillPart(k, 0, 0, 1, value);
                check.same("8: " + value, x.at(k, 0, 0), value);
                check.same("14: " + value, x.search(k, 0, value), 0);
                check.same("15: " + value, x.searchPart(k, 0, 0, 1, value), 0);
            }
            if (k == INTS || k == LONGS) {
                continue;
            }
            for (int no : new int[] {lowest[k] - 1, highest[k] + 1, Integer.MIN_VALUE, Integer.MAX_VALUE}) {
                check.noValue("6: " + no, x, () -> x.put(k, 0, 0, no));
                check.noValue("7: " + no, x, () -> x.fill(k, 0, no));
                check.noValue("8: " + no, x, () -> x.fillPart(k, 0, 0, 1, no));
                check.noValue("14: " + no, x, () -> x.search(k, 0, no));
                check.noValue("15: " + no, x, () -> x.searchPart(k, 0, 0, 1, no));
            }
        }
    }

    private static void fill() {
        for (int kind = 0; kind < 5; kind++) {
            int k = kind;
            Rowbench x = new Rowbench();
            check.same("7: an empty row", x.fill(k, 0, 7), 0);
            x.resize(k, 0, 4);
            check.same("7: places", x.fill(k, 0, 7), 4);
            check.same("7: all", Check.row(x, k, 0), "7 7 7 7");
            check.same("7: no other row", x.house(0), 4);
        }
        Rowbench x = new Rowbench();
        for (int no : Check.NO_KINDS) {
            check.noPlace("7: no kind", x, () -> x.fill(no, 0, 1));
        }
        for (int no : Check.NO_ROWS) {
            check.noPlace("7: no row goes ahead", x, () -> x.fill(SIGNS, no, -1));
        }
        check.noValue("7: no value, in an empty row too", x, () -> x.fill(SHORTS, 0, 32768));
    }

    private static void fillPart() {
        for (int kind = 0; kind < 5; kind++) {
            int k = kind;
            Rowbench x = new Rowbench();
            x.resize(k, 0, 4);
            check.same("8: places", x.fillPart(k, 0, 1, 3, 7), 2);
            check.same("8: the part alone", Check.row(x, k, 0), "0 7 7 0");
            check.same("8: an empty part", x.fillPart(k, 0, 4, 4, 9), 0);
            check.same("8: all", x.fillPart(k, 0, 0, 4, 8), 4);
            check.same("8: everywhere", Check.row(x, k, 0), "8 8 8 8");
            badParts("8", x, (from, to) -> x.fillPart(k, 0, from, to, 1));
        }
        Rowbench x = new Rowbench();
        check.same("8: of an empty row", x.fillPart(INTS, 0, 0, 0, 1), 0);
        check.noValue("8: no value goes ahead of no part", x, () -> x.fillPart(SIGNS, 0, 2, 1, 65536));
        for (int no : Check.NO_KINDS) {
            check.noPlace("8: no kind", x, () -> x.fillPart(no, 0, 2, 1, 1));
        }
        for (int no : Check.NO_ROWS) {
            check.noPlace("8: no row goes ahead", x, () -> x.fillPart(SIGNS, no, 2, 1, -1));
        }
    }

    private interface Part {
        Object answer(int from, int to);
    }

    /** Of a row of four places. */
    private static void badParts(String promise, Rowbench x, Part call) {
        check.refused(promise + ": from above to", x, () -> call.answer(3, 2));
        check.refused(promise + ": from below 0", x, () -> call.answer(-1, 2));
        check.refused(promise + ": to above the end", x, () -> call.answer(0, 5));
        check.refused(promise + ": both above the end", x, () -> call.answer(5, 5));
        check.refused(promise + ": both below 0", x, () -> call.answer(-1, -1));
        check.refused(promise + ": far", x, () -> call.answer(Integer.MIN_VALUE, Integer.MAX_VALUE));
    }

    private static void ramp() {
        Rowbench x = new Rowbench();
        check.same("9: an empty row", x.ramp(0, 1, 1), 0);
        x.resize(INTS, 1, 4);
        check.same("9: places", x.ramp(1, 10, -3), 4);
        check.same("9: the rule", Check.row(x, INTS, 1), "10 7 4 1");
        x.ramp(1, Integer.MAX_VALUE, Integer.MAX_VALUE);
        check.same("9: wraps around", Check.row(x, INTS, 1), "2147483647 -2 2147483645 -4");
        for (int no : Check.NO_ROWS) {
            check.noPlace("9: no row", x, () -> x.ramp(no, 1, 1));
        }
    }

    private static void sort() {
        Rowbench x = new Rowbench();
        Check.lay(x, INTS, 0, 3, Integer.MAX_VALUE, -1, Integer.MIN_VALUE, 3);
        Check.lay(x, LONGS, 0, 3, Integer.MAX_VALUE, -1, Integer.MIN_VALUE, 3);
        Check.lay(x, SIGNS, 0, 65535, 0, 32768, 32767);
        Check.lay(x, BYTES, 0, 127, -128, 0, -1);
        Check.lay(x, SHORTS, 0, 32767, -32768, 0, -1);
        check.same("10: places", x.sort(INTS, 0), 5);
        check.same("10: ints", Check.row(x, INTS, 0), "-2147483648 -1 3 3 2147483647");
        x.sort(LONGS, 0);
        check.same("10: longs", Check.row(x, LONGS, 0), "-2147483648 -1 3 3 2147483647");
        x.sort(SIGNS, 0);
        check.same("10: signs", Check.row(x, SIGNS, 0), "0 32767 32768 65535");
        x.sort(BYTES, 0);
        check.same("10: bytes", Check.row(x, BYTES, 0), "-128 -1 0 127");
        x.sort(SHORTS, 0);
        check.same("10: shorts", Check.row(x, SHORTS, 0), "-32768 -1 0 32767");
        check.same("10: an empty row", x.sort(INTS, 1), 0);
        x.resize(INTS, 1, 24);
        x.ramp(1, 24, -1);
        check.same("10: the most", x.sort(INTS, 1), 24);
        x.resize(INTS, 2, 24);
        x.ramp(2, 1, 1);
        check.same("10: all in order", x.isEqual(INTS, 1, 2), true);
        for (int no : Check.NO_KINDS) {
            check.noPlace("10: no kind", x, () -> x.sort(no, 0));
        }
        for (int no : Check.NO_ROWS) {
            check.noPlace("10: no row", x, () -> x.sort(INTS, no));
        }
    }

    private static void sortPart() {
        for (int kind = 0; kind < 5; kind++) {
            int k = kind;
            Rowbench x = new Rowbench();
            Check.lay(x, k, 0, 9, 8, 7, 6);
            check.same("11: places", x.sortPart(k, 0, 1, 3), 2);
            check.same("11: the part alone", Check.row(x, k, 0), "9 7 8 6");
            check.same("11: an empty part", x.sortPart(k, 0, 4, 4), 0);
            badParts("11", x, (from, to) -> x.sortPart(k, 0, from, to));
            check.same("11: all", x.sortPart(k, 0, 0, 4), 4);
            check.same("11: everywhere", Check.row(x, k, 0), "6 7 8 9");
        }
        Rowbench x = new Rowbench();
        for (int no : Check.NO_KINDS) {
            check.noPlace("11: no kind", x, () -> x.sortPart(no, 0, 2, 1));
        }
        for (int no : Check.NO_ROWS) {
            check.noPlace("11: no row", x, () -> x.sortPart(INTS, no, 2, 1));
        }
    }
}
