import java.util.List;

/**
 * The first and the last place of boxes and lists, the least and the greatest number, and what lies
 * just outside. The sentence of the document that is tested stands over each test.
 */
public final class BoxEdgesTest {
    private static final int PLACES = 6;
    private static final int LEAST = Integer.MIN_VALUE;
    private static final int MOST = Integer.MAX_VALUE;
    private static final int[] FAR = {LEAST, LEAST + 1, MOST - 1, MOST};
    private static final int[] NUMBERS = {LEAST, LEAST + 1, -99, -1, 0, 1, 127, 128, MOST - 1, MOST};

    private static final Check check = new Check();

    public static void main(String[] args) {
        rowsThatAreNone();
        for (int row = 0; row < 2; row++) {
            zeroAtFirst(row);
            places(row);
            numbers(row);
            neverLonger(row);
            sortedFromEnd(row);
            sortedExtremes(row);
            foundAtTheEnds(row);
            allTheSame(row);
            notThere(row);
            hashWrapsAround(row);
            written(row);
        }
        differAtOnePlace();
        sameNumbersElsewhere();
        check.finish("BoxEdgesTest");
    }

    private static Rowbench bench(int row, int... numbers) {
        Rowbench x = new Rowbench();
        Check.layBoxes(x, row, numbers);
        return x;
    }

    private static Rowbench counting(int row) {
        return bench(row, 1, 2, 3, 4, 5, 6);
    }

    /** 2. Boxes, lists: "There are two ROWS of BOXES, 0 and 1": of rows of numbers there is a row 2 too. */
    private static void rowsThatAreNone() {
        for (int no : new int[] {-1, 2, 3, LEAST, MOST}) {
            Rowbench x = counting(0);
            check.noPlace("23: no row " + no, x, () -> x.putBox(no, 0, 9));
            check.noPlace("23: no row " + no + " ahead of REFUSED", x, () -> x.putBox(no, 6, 9));
            check.noPlace("24: no row " + no, x, () -> x.putList(no, 0, 9));
            check.noPlace("25: no row " + no + " ahead of REFUSED", x, () -> x.addList(no, 9));
            check.noPlace("26: no row " + no, x, () -> x.sortBoxes(no, false));
            check.noPlace("26: no row " + no + ", falling", x, () -> x.sortBoxes(no, true));
            check.noPlace("27: no row " + no, x, () -> x.boxAt(no, 0, false));
            check.noPlace("27: no list " + no, x, () -> x.boxAt(no, 0, true));
            check.noPlace("28: no row " + no, x, () -> x.sizeOf(no));
            check.noPlace("29: no row " + no, x, () -> x.indexOf(no, 1, false));
            check.noPlace("29: no row " + no + ", the last", x, () -> x.indexOf(no, 1, true));
            check.noPlace("30: no row " + no, x, () -> x.contains(no, 1));
            check.noPlace("32: no row " + no, x, () -> x.listHash(no));
            check.noPlace("33: no row " + no, x, () -> x.listText(no));
            check.same("35: none was refused", x.house(2), 0);
        }
    }

    /** 2. Boxes, lists: "of 6 places each, all 0 at first". */
    private static void zeroAtFirst(int row) {
        Rowbench x = new Rowbench();
        for (int place = 0; place < PLACES; place++) {
            int p = place;
            check.asks("27: box " + place, x, 0, () -> x.boxAt(row, p, false));
            check.asks("27: of the list " + place, x, 0, () -> x.boxAt(row, p, true));
        }
        check.asks("28: six", x, 6, () -> x.sizeOf(row));
        check.asks("29: the first 0", x, 0, () -> x.indexOf(row, 0, false));
        check.asks("29: the last 0", x, 5, () -> x.indexOf(row, 0, true));
        check.asks("30: 0 is there", x, true, () -> x.contains(row, 0));
        check.asks("30: 1 is not", x, false, () -> x.contains(row, 1));
        check.asks("31: the same", x, true, () -> x.areListsEqual());
        check.asks("32: of six times 0", x, 887503681, () -> x.listHash(row));
        check.asks("33: six times 0", x, "[0, 0, 0, 0, 0, 0]", () -> x.listText(row));
        check.same("35: are no places of ROWS of a KIND", x.house(0), 0);
    }

    /**
     * 23: "REFUSED if there is no such place", 24 and 27: "Throws IndexOutOfBoundsException if there
     * is no such [...] place of it", and 2. Boxes, lists: "what is put into the one is in the other one".
     */
    private static void places(int row) {
        for (int place = 0; place < PLACES; place++) {
            int p = place;
            int[] due = {1, 2, 3, 4, 5, 6};
            due[place] = 70;
            Rowbench x = counting(row);
            check.answers("23: place " + place, x, place + 1, () -> x.putBox(row, p, 70));
            isBoth("23: place " + place, x, row, due);
            Rowbench y = counting(row);
            check.answers("24: place " + place, y, place + 1, () -> y.putList(row, p, 70));
            isBoth("24: place " + place, y, row, due);
        }
        for (int no : new int[] {-2, -1, 6, 7, 23, 24}) {
            noPlace(row, no);
        }
        for (int no : FAR) {
            noPlace(row, no);
        }
    }

    private static void noPlace(int row, int no) {
        Rowbench x = counting(row);
        check.refused("23: no place " + no, x, () -> x.putBox(row, no, 70));
        check.noPlace("24: no place " + no, x, () -> x.putList(row, no, 70));
        check.noPlace("27: no box " + no, x, () -> x.boxAt(row, no, false));
        check.noPlace("27: no place of the list " + no, x, () -> x.boxAt(row, no, true));
        isBoth("23: no place " + no, x, row, 1, 2, 3, 4, 5, 6);
        check.same("35: one was refused", x.house(2), 1);
    }

    /** The boxes and the list tell these, and the other row is as it was. */
    private static void isBoth(String what, Rowbench x, int row, int... due) {
        for (int place = 0; place < PLACES; place++) {
            check.same(what + ": box " + place, x.boxAt(row, place, false), due[place]);
            check.same(what + ": of the list " + place, x.boxAt(row, place, true), due[place]);
            check.same(what + ": the other box " + place, x.boxAt(1 - row, place, false), 0);
        }
        check.same(what + ": size", x.sizeOf(row), PLACES);
    }

    /** 23, 24: "the number" is any of 32 bits: no exception is named for one. */
    private static void numbers(int row) {
        for (int number : NUMBERS) {
            Rowbench x = counting(row);
            check.answers("23: puts " + number, x, 1, () -> x.putBox(row, 0, number));
            check.answers("24: had " + number, x, number, () -> x.putList(row, 0, 7));
            check.answers("24: puts " + number, x, 6, () -> x.putList(row, 5, number));
            check.asks("27: tells " + number, x, number, () -> x.boxAt(row, 5, false));
            check.asks("29: finds " + number, x, 5, () -> x.indexOf(row, number, true));
            check.asks("30: has " + number, x, true, () -> x.contains(row, number));
            check.answers("23: had " + number, x, number, () -> x.putBox(row, 5, 8));
            isBoth("23: both", x, row, 7, 2, 3, 4, 5, 8);
        }
    }

    /** 2. Boxes, lists: "A LIST never becomes longer or shorter"; 25: "Returns REFUSED." */
    private static void neverLonger(int row) {
        Rowbench x = counting(row);
        for (int number : NUMBERS) {
            check.refused("25: " + number, x, () -> x.addList(row, number));
        }
        check.same("35: each was counted", x.house(2), NUMBERS.length);
        isBoth("25: as it was", x, row, 1, 2, 3, 4, 5, 6);
        x.sortBoxes(row, true);
        x.putList(row, 5, 9);
        check.asks("28: six still", x, 6, () -> x.sizeOf(row));
        check.asks("28: six of the other one", x, 6, () -> x.sizeOf(1 - row));
        check.refused("25: sorted", x, () -> x.addList(row, 0));
    }

    /** 26: "Returns the number in the BOX 0 then", of boxes that are the other way round, or right already. */
    private static void sortedFromEnd(int row) {
        Rowbench x = counting(row);
        check.answers("26: rising already", x, 1, () -> x.sortBoxes(row, false));
        isBoth("26: rising already", x, row, 1, 2, 3, 4, 5, 6);
        check.answers("26: rising, to fall", x, 6, () -> x.sortBoxes(row, true));
        isBoth("26: rising, to fall", x, row, 6, 5, 4, 3, 2, 1);
        check.answers("26: falling already", x, 6, () -> x.sortBoxes(row, true));
        isBoth("26: falling already", x, row, 6, 5, 4, 3, 2, 1);
        check.answers("26: falling, to rise", x, 1, () -> x.sortBoxes(row, false));
        isBoth("26: falling, to rise", x, row, 1, 2, 3, 4, 5, 6);
    }

    /** 26: "none ahead of a smaller one": as numbers, of which some differ in more than 32 bits. */
    private static void sortedExtremes(int row) {
        Rowbench x = bench(row, MOST, 0, LEAST, -1, MOST, LEAST);
        check.answers("26: the least", x, LEAST, () -> x.sortBoxes(row, false));
        isBoth("26: rising", x, row, LEAST, LEAST, -1, 0, MOST, MOST);
        check.answers("26: the greatest", x, MOST, () -> x.sortBoxes(row, true));
        isBoth("26: falling", x, row, MOST, MOST, 0, -1, LEAST, LEAST);
        Rowbench y = bench(row, 4, 4, 4, 4, 4, 4);
        check.answers("26: all the same", y, 4, () -> y.sortBoxes(row, false));
        check.answers("26: all the same, falling", y, 4, () -> y.sortBoxes(row, true));
        isBoth("26: all the same", y, row, 4, 4, 4, 4, 4, 4);
    }

    /** 29: "whether the last one, otherwise the first one", at the first and the last place. */
    private static void foundAtTheEnds(int row) {
        for (int first = 0; first < PLACES; first++) {
            for (int last = first; last < PLACES; last++) {
                Rowbench x = counting(row);
                x.putBox(row, first, 1000);
                x.putBox(row, last, 1000);
                check.asks("29: the first at " + first, x, first, () -> x.indexOf(row, 1000, false));
                check.asks("29: the last at " + last, x, last, () -> x.indexOf(row, 1000, true));
                check.asks("30: is there", x, true, () -> x.contains(row, 1000));
                check.asks("29: not in the other one", x, -1, () -> x.indexOf(1 - row, 1000, false));
                check.asks("30: not in the other one", x, false, () -> x.contains(1 - row, 1000));
            }
        }
    }

    private static void allTheSame(int row) {
        for (int number : NUMBERS) {
            Rowbench x = bench(row, number, number, number, number, number, number);
            check.same("29: the first of all, " + number, x.indexOf(row, number, false), 0);
            check.same("29: the last of all, " + number, x.indexOf(row, number, true), 5);
            check.same("31: the same just if 0, " + number, x.areListsEqual(), number == 0);
        }
    }

    /** 29: "NONE without". */
    private static void notThere(int row) {
        Rowbench x = counting(row);
        for (int number : new int[] {0, 7, -1, LEAST, MOST}) {
            check.asks("29: no " + number, x, -1, () -> x.indexOf(row, number, false));
            check.asks("29: no " + number + ", the last", x, -1, () -> x.indexOf(row, number, true));
            check.asks("30: no " + number, x, false, () -> x.contains(row, number));
        }
    }

    /** 2. Boxes, lists: "HASH of a LIST is told as that of INTS": the last that fits, the first that wraps around. */
    private static void hashWrapsAround(int row) {
        Rowbench x = bench(row, 0, 0, 0, 0, 0, MOST - 887503681);
        check.asks("32: the greatest", x, MOST, () -> x.listHash(row));
        x.putBox(row, 5, MOST - 887503681 + 1);
        check.asks("32: wraps around", x, LEAST, () -> x.listHash(row));
        for (int number : NUMBERS) {
            Rowbench y = bench(row, number, number, number, number, number, number);
            int due = List.of(number, number, number, number, number, number).hashCode();
            check.asks("32: six times " + number, y, due, () -> y.listHash(row));
        }
    }

    /** 2. Boxes, lists: "As a text", of the shortest and the longest numbers. */
    private static void written(int row) {
        for (int number : NUMBERS) {
            Rowbench x = bench(row, number, number, number, number, number, number);
            String due = List.of(number, number, number, number, number, number).toString();
            check.asks("33: six times " + number, x, due, () -> x.listText(row));
        }
    }

    /** 31: "number by number", at the first and the last place too. */
    private static void differAtOnePlace() {
        for (int place = 0; place < PLACES; place++) {
            for (int row = 0; row < 2; row++) {
                Rowbench x = counting(0);
                Check.layBoxes(x, 1, 1, 2, 3, 4, 5, 6);
                check.asks("31: the same", x, true, () -> x.areListsEqual());
                x.putBox(row, place, LEAST);
                check.asks("31: another at " + place, x, false, () -> x.areListsEqual());
                x.putBox(1 - row, place, LEAST);
                check.asks("31: the same again", x, true, () -> x.areListsEqual());
                x.putList(row, place, MOST);
                check.asks("31: put into the list", x, false, () -> x.areListsEqual());
            }
        }
    }

    private static void sameNumbersElsewhere() {
        Rowbench x = counting(0);
        Check.layBoxes(x, 1, 6, 5, 4, 3, 2, 1);
        check.asks("31: at other places", x, false, () -> x.areListsEqual());
        x.sortBoxes(1, false);
        check.asks("31: sorted", x, true, () -> x.areListsEqual());
    }
}
