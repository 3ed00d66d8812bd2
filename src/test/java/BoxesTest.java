import java.util.List;

/** Promises 23 to 33: boxes, and the lists as which they are seen. */
public final class BoxesTest {
    private static final int[] NO_ROWS = {-1, 2, Integer.MIN_VALUE, Integer.MAX_VALUE};
    private static final int[] NO_PLACES = {-1, 6, Integer.MIN_VALUE, Integer.MAX_VALUE};

    private static final Check check = new Check();

    public static void main(String[] args) {
        for (int row = 0; row < 2; row++) {
            putBox(row);
            putList(row);
            addList(row);
            sortBoxes(row);
            boxAt(row);
            indexOf(row);
            listHash(row);
            listText(row);
        }
        areListsEqual();
        noRows();
        check.finish("BoxesTest");
    }

    private static void putBox(int row) {
        Rowbench x = new Rowbench();
        check.same("23: was 0", x.putBox(row, 5, 9), 0);
        check.same("23: was 9", x.putBox(row, 5, -4), 9);
        check.same("23: is in the list", x.listText(row), "[0, 0, 0, 0, 0, -4]");
        check.same("23: is not in the other row", x.listText(1 - row), "[0, 0, 0, 0, 0, 0]");
        for (int no : NO_PLACES) {
            check.refused("23: no place", x, () -> x.putBox(row, no, 1));
        }
        x.putBox(row, 0, -99);
        int refusals = x.house(2);
        check.same("23: REFUSED may be a number", x.putBox(row, 0, 1), -99);
        check.same("23: which was not refused", x.house(2), refusals);
    }

    private static void putList(int row) {
        Rowbench x = new Rowbench();
        check.same("24: was 0", x.putList(row, 0, Integer.MIN_VALUE), 0);
        check.same("24: was the least", x.putList(row, 0, 7), Integer.MIN_VALUE);
        check.same("24: is in the box", x.boxAt(row, 0, false), 7);
        check.same("24: is not in the other row", x.boxAt(1 - row, 0, false), 0);
        for (int no : NO_PLACES) {
            check.noPlace("24: no place", x, () -> x.putList(row, no, 1));
        }
    }

    private static void addList(int row) {
        Rowbench x = new Rowbench();
        check.refused("25: is always refused", x, () -> x.addList(row, 1));
        check.refused("25: and again", x, () -> x.addList(row, Integer.MIN_VALUE));
        check.same("28: never longer", x.sizeOf(row), 6);
    }

    private static void sortBoxes(int row) {
        Rowbench x = new Rowbench();
        Check.layBoxes(x, row, 3, Integer.MIN_VALUE, 3, Integer.MAX_VALUE, -1, 0);
        check.same("26: the least", x.sortBoxes(row, false), Integer.MIN_VALUE);
        check.same("26: rising", x.listText(row), "[-2147483648, -1, 0, 3, 3, 2147483647]");
        check.same("26: the greatest", x.sortBoxes(row, true), Integer.MAX_VALUE);
        check.same("26: falling", x.listText(row), "[2147483647, 3, 3, 0, -1, -2147483648]");
        check.same("26: the other row is as it was", x.listText(1 - row), "[0, 0, 0, 0, 0, 0]");
    }

    private static void boxAt(int row) {
        Rowbench x = new Rowbench();
        Check.layBoxes(x, row, 1, 2, 3, 4, 5, 6);
        for (int place = 0; place < 6; place++) {
            check.same("27: of the boxes", x.boxAt(row, place, false), place + 1);
            check.same("27: of the list", x.boxAt(row, place, true), place + 1);
        }
        for (int no : NO_PLACES) {
            check.noPlace("27: no place of the boxes", x, () -> x.boxAt(row, no, false));
            check.noPlace("27: no place of the list", x, () -> x.boxAt(row, no, true));
        }
        check.same("28: six", x.sizeOf(row), 6);
    }

    private static void indexOf(int row) {
        Rowbench x = new Rowbench();
        Check.layBoxes(x, row, 8, 1000, 7, 1000, 7, 9);
        check.same("29: the first one", x.indexOf(row, 1000, false), 1);
        check.same("29: the last one", x.indexOf(row, 1000, true), 3);
        check.same("29: the last one of others", x.indexOf(row, 7, true), 4);
        check.same("29: at the front", x.indexOf(row, 8, true), 0);
        check.same("29: at the end", x.indexOf(row, 9, false), 5);
        check.same("29: at the end, from behind", x.indexOf(row, 9, true), 5);
        check.same("29: none", x.indexOf(row, 0, false), -1);
        check.same("29: none from behind", x.indexOf(row, 0, true), -1);
        check.same("30: is there", x.contains(row, 1000), true);
        check.same("30: is there at the front", x.contains(row, 8), true);
        check.same("30: is there at the end", x.contains(row, 9), true);
        check.same("30: is not there", x.contains(row, 0), false);
        check.same("30: is not in the other row", x.contains(1 - row, 1000), false);
    }

    private static void listHash(int row) {
        Rowbench x = new Rowbench();
        check.same("32: at first", x.listHash(row), List.of(0, 0, 0, 0, 0, 0).hashCode());
        Check.layBoxes(x, row, 3, Integer.MIN_VALUE, 3, Integer.MAX_VALUE, -1, 5);
        int due = List.of(3, Integer.MIN_VALUE, 3, Integer.MAX_VALUE, -1, 5).hashCode();
        check.same("32: of numbers", x.listHash(row), due);
    }

    private static void listText(int row) {
        Rowbench x = new Rowbench();
        Check.layBoxes(x, row, 3, Integer.MIN_VALUE, 3, Integer.MAX_VALUE, -1, 5);
        check.same("33: of numbers", x.listText(row), "[3, -2147483648, 3, 2147483647, -1, 5]");
    }

    private static void areListsEqual() {
        Rowbench x = new Rowbench();
        check.same("31: at first", x.areListsEqual(), true);
        for (int place = 0; place < 6; place++) {
            x.putBox(0, place, 1000);
            check.same("31: another at " + place, x.areListsEqual(), false);
            x.putList(1, place, 1000);
            check.same("31: the same again", x.areListsEqual(), true);
        }
        x.putBox(0, 0, 1);
        x.putBox(1, 5, 1);
        check.same("31: the same numbers at other places", x.areListsEqual(), false);
    }

    private static void noRows() {
        Rowbench x = new Rowbench();
        for (int no : NO_ROWS) {
            check.noPlace("23: no row goes ahead of REFUSED", x, () -> x.putBox(no, 6, 1));
            check.noPlace("24: no row", x, () -> x.putList(no, 0, 1));
            check.noPlace("25: no row goes ahead of REFUSED", x, () -> x.addList(no, 1));
            check.noPlace("26: no row", x, () -> x.sortBoxes(no, false));
            check.noPlace("26: no row falling", x, () -> x.sortBoxes(no, true));
            check.noPlace("27: no row of boxes", x, () -> x.boxAt(no, 0, false));
            check.noPlace("27: no list", x, () -> x.boxAt(no, 0, true));
            check.noPlace("28: no row", x, () -> x.sizeOf(no));
            check.noPlace("29: no row", x, () -> x.indexOf(no, 0, false));
            check.noPlace("29: no row from behind", x, () -> x.indexOf(no, 0, true));
            check.noPlace("30: no row", x, () -> x.contains(no, 0));
            check.noPlace("32: no row", x, () -> x.listHash(no));
            check.noPlace("33: no row", x, () -> x.listText(no));
        }
    }
}
