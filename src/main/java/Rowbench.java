/**
 * A bench of rows of numbers: five kinds of three rows each, and two rows of boxes that are seen as
 * lists too. What each method promises stands in ../shared/DOC.md.
 *
 * All rows are made in the constructor and used again, because what a run of calls makes is counted.
 */
public final class Rowbench {
    private static final int NONE = -1;
    private static final int REFUSED = -99;

    private static final int KINDS = 5;
    private static final int INTS = 0;
    private static final int SIGNS = 2;
    private static final int BYTES = 3;
    private static final int SHORTS = 4;

    private static final int ROWS = 3;
    private static final int MOST_PLACES = 24;
    private static final int FARTHEST = 30;

    private static final int BOX_ROWS = 2;
    private static final int BOX_PLACES = 6;

    private static final long FIRST_CHECKSUM = 7709;

    /** Three stores of each kind; storeOf tells in which a row stands. Rows that are one stand in the same. */
    private final Row[] stores = new Row[KINDS * ROWS];
    private final int[] storeOf = new int[KINDS * ROWS];
    private final Row[] boxes = new Row[BOX_ROWS];
    private final Row sortedCopy = new Row(0);
    private final StringBuilder line = new StringBuilder();
    private int knocks = 0;
    private int refusals = 0;

    public Rowbench() {
        for (int slot = 0; slot < stores.length; slot++) {
            stores[slot] = new Row(0);
            storeOf[slot] = slot;
        }
        for (int row = 0; row < boxes.length; row++) {
            boxes[row] = new Row(BOX_PLACES);
        }
    }

    // ---- rows are changed

    public int resize(int kind, int row, int length) throws IndexOutOfBoundsException, IllegalArgumentException {
        Row old = rowOf(kind, row);
        if (length > MOST_PLACES) {
            throw new IllegalArgumentException("a row has at most 24 places");
        }
        if (length < 0) {
            return refuse();
        }
        int had = old.length;
        ownRow(kind, row).become(old, 0, length);
        return had;
    }

    public int range(int kind, int row, int other, int from, int to)
            throws IndexOutOfBoundsException, IllegalArgumentException {
        Row source = rowOf(kind, row);
        checkRow(kind, other);
        if (!isNear(from) || !isNear(to) || to - from > MOST_PLACES) {
            throw new IllegalArgumentException("from or to is too far, or too many places are between");
        }
        if (from < 0 || from > to || from > source.length) {
            return refuse();
        }
        ownRow(kind, other).become(source, from, to - from);
        return to - from;
    }

    public int copy(int kind, int row, int other) throws IndexOutOfBoundsException {
        Row source = rowOf(kind, row);
        checkRow(kind, other);
        int places = source.length;
        ownRow(kind, other).become(source, 0, places);
        return places;
    }

    public int share(int kind, int row, int other) throws IndexOutOfBoundsException {
        int first = slotOf(kind, row);
        int second = slotOf(kind, other);
        if (storeOf[first] == storeOf[second]) {
            return 1;
        }
        storeOf[second] = storeOf[first];
        return 0;
    }

    public int put(int kind, int row, int place, int value)
            throws IndexOutOfBoundsException, IllegalArgumentException {
        Row changed = rowOf(kind, row);
        checkValue(kind, value);
        if (!changed.hasPlace(place)) {
            return refuse();
        }
        return changed.exchange(place, value);
    }

    public int fill(int kind, int row, int value) throws IndexOutOfBoundsException, IllegalArgumentException {
        Row changed = rowOf(kind, row);
        checkValue(kind, value);
        changed.fillPlaces(0, changed.length, value);
        return changed.length;
    }

    public int fillPart(int kind, int row, int from, int to, int value)
            throws IndexOutOfBoundsException, IllegalArgumentException {
        Row changed = rowOf(kind, row);
        checkValue(kind, value);
        if (!changed.hasPart(from, to)) {
            return refuse();
        }
        changed.fillPlaces(from, to, value);
        return to - from;
    }

    public int ramp(int row, int start, int step) throws IndexOutOfBoundsException {
        Row changed = rowOf(INTS, row);
        for (int place = 0; place < changed.length; place++) {
            changed.setAt(place, start + step * place);
        }
        return changed.length;
    }

    public int sort(int kind, int row) throws IndexOutOfBoundsException {
        Row changed = rowOf(kind, row);
        changed.sortPlaces(0, changed.length);
        return changed.length;
    }

    public int sortPart(int kind, int row, int from, int to) throws IndexOutOfBoundsException {
        Row changed = rowOf(kind, row);
        if (!changed.hasPart(from, to)) {
            return refuse();
        }
        changed.sortPlaces(from, to);
        return to - from;
    }

    // ---- what is asked of rows

    public int length(int kind, int row) throws IndexOutOfBoundsException {
        return rowOf(kind, row).length;
    }

    public int at(int kind, int row, int place) throws IndexOutOfBoundsException {
        return placeOf(rowOf(kind, row), place);
    }

    public int search(int kind, int row, int value)
            throws IndexOutOfBoundsException, IllegalArgumentException, IllegalStateException {
        Row searched = rowOf(kind, row);
        checkValue(kind, value);
        return searchIn(searched, 0, searched.length, value);
    }

    public int searchPart(int kind, int row, int from, int to, int value)
            throws IndexOutOfBoundsException, IllegalArgumentException, IllegalStateException {
        Row searched = rowOf(kind, row);
        checkValue(kind, value);
        if (!searched.hasPart(from, to)) {
            return refuse();
        }
        return searchIn(searched, from, to, value);
    }

    public boolean isEqual(int kind, int row, int other) throws IndexOutOfBoundsException {
        return rowOf(kind, row).isSameFrom(0, rowOf(kind, other), 0);
    }

    public boolean isOne(int kind, int row, int other) throws IndexOutOfBoundsException {
        return storeOf[slotOf(kind, row)] == storeOf[slotOf(kind, other)];
    }

    public int order(int kind, int row, int other) throws IndexOutOfBoundsException {
        return rowOf(kind, row).orderTo(rowOf(kind, other));
    }

    public int mismatch(int kind, int row, int other) throws IndexOutOfBoundsException {
        return rowOf(kind, row).mismatchWith(rowOf(kind, other));
    }

    public boolean isEqualFrom(int kind, int row, int from, int other, int from2)
            throws IndexOutOfBoundsException, IllegalArgumentException {
        Row first = rowOf(kind, row);
        Row second = rowOf(kind, other);
        if (!isNear(from) || !isNear(from2)) {
            throw new IllegalArgumentException("a place is too far");
        }
        // What is refused here is not counted: the method tells no number.
        return first.hasPart(from, first.length)
                && second.hasPart(from2, second.length)
                && first.isSameFrom(from, second, from2);
    }

    public int hash(int row) throws IndexOutOfBoundsException {
        return rowOf(INTS, row).hashOfValues();
    }

    public String text(int row) throws IndexOutOfBoundsException {
        return writtenLine(rowOf(INTS, row)).toString();
    }

    // ---- boxes, lists: the list is the row of boxes itself, so what is put into one is in the other

    public int putBox(int row, int place, int value) throws IndexOutOfBoundsException {
        Row changed = boxesOf(row);
        if (!changed.hasPlace(place)) {
            return refuse();
        }
        return changed.exchange(place, value);
    }

    public int putList(int row, int place, int value) throws IndexOutOfBoundsException {
        Row changed = boxesOf(row);
        if (!changed.hasPlace(place)) {
            throw new IndexOutOfBoundsException("no such place");
        }
        return changed.exchange(place, value);
    }

    public int addList(int row, int value) throws IndexOutOfBoundsException {
        checkBoxRow(row);
        return refuse();
    }

    public int sortBoxes(int row, boolean isFalling) throws IndexOutOfBoundsException {
        Row changed = boxesOf(row);
        changed.sortPlaces(0, changed.length);
        if (isFalling) {
            changed.turnRound();
        }
        return changed.valueAt(0);
    }

    public int boxAt(int row, int place, boolean isList) throws IndexOutOfBoundsException {
        return placeOf(boxesOf(row), place);
    }

    public int sizeOf(int row) throws IndexOutOfBoundsException {
        return boxesOf(row).length;
    }

    public int indexOf(int row, int value, boolean isLast) throws IndexOutOfBoundsException {
        Row searched = boxesOf(row);
        return isLast ? searched.lastPlaceOf(value) : searched.firstPlaceOf(value);
    }

    public boolean contains(int row, int value) throws IndexOutOfBoundsException {
        return boxesOf(row).firstPlaceOf(value) != NONE;
    }

    public boolean areListsEqual() {
        return boxesOf(0).isSameFrom(0, boxesOf(1), 0);
    }

    public int listHash(int row) throws IndexOutOfBoundsException {
        return boxesOf(row).hashOfValues();
    }

    public String listText(int row) throws IndexOutOfBoundsException {
        return writtenLine(boxesOf(row)).toString();
    }

    // ---- the whole

    public int knock() {
        knocks++;
        return knocks;
    }

    public int house(int what) throws IllegalArgumentException {
        switch (what) {
            case 0:
                return countPlaces();
            case 1:
                return knocks;
            case 2:
                return refusals;
            case 3:
                return countPairs();
            default:
                throw new IllegalArgumentException("the house tells 0 to 3");
        }
    }

    public boolean isSound() {
        for (int kind = 0; kind < KINDS; kind++) {
            if (!areRowsSound(kind) || !arePairsSound(kind)) {
                return false;
            }
        }
        return areBoxesSound();
    }

    public long digest() {
        long d = FIRST_CHECKSUM;
        for (int what = 0; what <= 3; what++) {
            d = mix(d, house(what));
        }
        for (int kind = 0; kind < KINDS; kind++) {
            d = mixRows(d, kind);
        }
        for (int kind = 0; kind < KINDS; kind++) {
            d = mixPairs(d, kind);
        }
        d = mixTexts(d);
        d = mixBoxes(d);
        d = mix(d, areListsEqual() ? 1 : 0);
        return mix(d, isSound() ? 1 : 0);
    }

    // ---- which row is meant, and what is no row, value or place

    private int slotOf(int kind, int row) {
        if (kind < 0 || kind >= KINDS) {
            throw new IndexOutOfBoundsException("no such kind");
        }
        if (row < 0 || row >= ROWS) {
            throw new IndexOutOfBoundsException("no such row");
        }
        return kind * ROWS + row;
    }

    private void checkRow(int kind, int row) {
        slotOf(kind, row);
    }

    private Row rowOf(int kind, int row) {
        return stores[storeOf[slotOf(kind, row)]];
    }

    private void checkBoxRow(int row) {
        if (row < 0 || row >= BOX_ROWS) {
            throw new IndexOutOfBoundsException("no such row of boxes");
        }
    }

    private Row boxesOf(int row) {
        checkBoxRow(row);
        return boxes[row];
    }

    private static int placeOf(Row asked, int place) {
        if (!asked.hasPlace(place)) {
            throw new IndexOutOfBoundsException("no such place");
        }
        return asked.valueAt(place);
    }

    /**
     * A long is held as the number that is told, not as that number times 1000000000: the factor
     * changes no answer, for it keeps what is same and what is ahead.
     */
    private static boolean isValue(int kind, int value) {
        switch (kind) {
            case SIGNS:
                return value >= 0 && value <= 65535;
            case BYTES:
                return value >= -128 && value <= 127;
            case SHORTS:
                return value >= -32768 && value <= 32767;
            default:
                return true;
        }
    }

    private static void checkValue(int kind, int value) {
        if (!isValue(kind, value)) {
            throw new IllegalArgumentException("no value of that kind");
        }
    }

    private static boolean isNear(int place) {
        return place >= -FARTHEST && place <= FARTHEST;
    }

    private int refuse() {
        refusals++;
        return REFUSED;
    }

    // ---- rows that become another one

    /**
     * Gives a row a store that no other row has, so that it is one with none. What stood in its old
     * store is still there for who holds it. The two other rows have at most two of the three
     * stores: the loop ends at a free one.
     */
    private Row ownRow(int kind, int row) {
        int slot = slotOf(kind, row);
        int store = kind * ROWS;
        int last = store + ROWS - 1;
        while (store < last && isStoreOfAnother(kind, row, store)) {
            store++;
        }
        storeOf[slot] = store;
        return stores[store];
    }

    private boolean isStoreOfAnother(int kind, int row, int store) {
        for (int other = 0; other < ROWS; other++) {
            if (other != row && storeOf[slotOf(kind, other)] == store) {
                return true;
            }
        }
        return false;
    }

    // ---- searching, writing, counting

    private static int searchIn(Row searched, int from, int to, int value) {
        if (!searched.isRising(from, to)) {
            throw new IllegalStateException("one stands ahead of a smaller one");
        }
        if (searched.countOf(from, to, value) > 0) {
            return 0;
        }
        return -1 - from - searched.countBelow(from, to, value);
    }

    /** The line is kept and written anew each time: a digest needs many texts, but their lengths alone. */
    private StringBuilder writtenLine(Row written) {
        line.setLength(0);
        line.append('[');
        for (int place = 0; place < written.length; place++) {
            if (place > 0) {
                line.append(", ");
            }
            line.append(written.valueAt(place));
        }
        line.append(']');
        return line;
    }

    private int countPlaces() {
        int places = 0;
        for (int kind = 0; kind < KINDS; kind++) {
            for (int row = 0; row < ROWS; row++) {
                places += length(kind, row);
            }
        }
        return places;
    }

    private int countPairs() {
        int pairs = 0;
        for (int kind = 0; kind < KINDS; kind++) {
            for (int row = 0; row < ROWS; row++) {
                for (int other = row + 1; other < ROWS; other++) {
                    pairs += isOne(kind, row, other) ? 1 : 0;
                }
            }
        }
        return pairs;
    }

    // ---- whether all is sound

    private boolean areRowsSound(int kind) {
        for (int row = 0; row < ROWS; row++) {
            Row checked = rowOf(kind, row);
            if (checked.length > MOST_PLACES || !isSortedCopySound(checked)) {
                return false;
            }
        }
        return true;
    }

    private boolean isSortedCopySound(Row checked) {
        int places = checked.length;
        sortedCopy.become(checked, 0, places);
        sortedCopy.sortPlaces(0, places);
        if (sortedCopy.length != places || !sortedCopy.isRising(0, places)) {
            return false;
        }
        for (int place = 0; place < places; place++) {
            int value = checked.valueAt(place);
            if (sortedCopy.countOf(0, places, value) != checked.countOf(0, places, value)) {
                return false;
            }
        }
        return true;
    }

    private boolean arePairsSound(int kind) {
        for (int row = 0; row < ROWS; row++) {
            for (int other = row + 1; other < ROWS; other++) {
                Row first = rowOf(kind, row);
                Row second = rowOf(kind, other);
                boolean isSame = first.isSameFrom(0, second, 0);
                if (isSame != (first.mismatchWith(second) == NONE) || isSame != (first.orderTo(second) == 0)) {
                    return false;
                }
            }
        }
        return true;
    }

    private boolean areBoxesSound() {
        for (int row = 0; row < BOX_ROWS; row++) {
            for (int place = 0; place < BOX_PLACES; place++) {
                if (boxAt(row, place, false) != boxAt(row, place, true)) {
                    return false;
                }
            }
        }
        return true;
    }

    // ---- the checksum, part by part

    private static long mix(long d, long v) {
        return d * 31 + v;
    }

    private long mixRows(long before, int kind) {
        long d = before;
        for (int row = 0; row < ROWS; row++) {
            Row told = rowOf(kind, row);
            d = mix(d, told.length);
            d = mixPlaces(d, told);
        }
        return d;
    }

    private static long mixPlaces(long before, Row told) {
        long d = before;
        for (int place = 0; place < told.length; place++) {
            d = mix(d, told.valueAt(place));
        }
        return d;
    }

    private long mixPairs(long before, int kind) {
        long d = before;
        for (int row = 0; row < ROWS; row++) {
            for (int other = row + 1; other < ROWS; other++) {
                d = mix(d, order(kind, row, other));
                d = mix(d, mismatch(kind, row, other));
                d = mix(d, isOne(kind, row, other) ? 1 : 0);
            }
        }
        return d;
    }

    private long mixTexts(long before) {
        long d = before;
        for (int row = 0; row < ROWS; row++) {
            Row told = rowOf(INTS, row);
            d = mix(d, told.hashOfValues());
            d = mix(d, writtenLine(told).length());
        }
        return d;
    }

    private long mixBoxes(long before) {
        long d = before;
        for (int row = 0; row < BOX_ROWS; row++) {
            Row told = boxesOf(row);
            d = mixPlaces(d, told);
            d = mix(d, told.hashOfValues());
            d = mix(d, writtenLine(told).length());
        }
        return d;
    }

    /**
     * The places of a row. It looks at each index itself: a place that the row does not have holds 0
     * and takes nothing.
     */
    private static final class Row {
        private final int[] values = new int[MOST_PLACES];
        private int length;

        Row(int length) {
            this.length = length;
        }

        boolean hasPlace(int place) {
            return place >= 0 && place < length && place < values.length;
        }

        boolean hasPart(int from, int to) {
            return from >= 0 && from <= to && to <= length;
        }

        int valueAt(int place) {
            return hasPlace(place) ? values[place] : 0;
        }

        void setAt(int place, int value) {
            if (hasPlace(place)) {
                values[place] = value;
            }
        }

        int exchange(int place, int value) {
            int old = valueAt(place);
            setAt(place, value);
            return old;
        }

        /**
         * Takes over places of a source, 0 where it has none. The source may be this row itself:
         * so the copying goes forward, and the length comes last.
         */
        void become(Row source, int from, int places) {
            for (int k = 0; k < places && k < values.length; k++) {
                values[k] = source.valueAt(from + k);
            }
            length = places;
        }

        void fillPlaces(int from, int to, int value) {
            for (int place = from; place < to; place++) {
                setAt(place, value);
            }
        }

        void sortPlaces(int from, int to) {
            for (int next = from + 1; next < to; next++) {
                int value = valueAt(next);
                int place = next;
                while (place > from && valueAt(place - 1) > value) {
                    setAt(place, valueAt(place - 1));
                    place--;
                }
                setAt(place, value);
            }
        }

        void turnRound() {
            for (int front = 0; front < length / 2; front++) {
                int back = length - 1 - front;
                setAt(back, exchange(front, valueAt(back)));
            }
        }

        boolean isRising(int from, int to) {
            for (int place = from + 1; place < to; place++) {
                if (valueAt(place - 1) > valueAt(place)) {
                    return false;
                }
            }
            return true;
        }

        int countOf(int from, int to, int value) {
            int count = 0;
            for (int place = from; place < to; place++) {
                count += valueAt(place) == value ? 1 : 0;
            }
            return count;
        }

        int countBelow(int from, int to, int value) {
            int count = 0;
            for (int place = from; place < to; place++) {
                count += valueAt(place) < value ? 1 : 0;
            }
            return count;
        }

        int firstPlaceOf(int value) {
            for (int place = 0; place < length; place++) {
                if (valueAt(place) == value) {
                    return place;
                }
            }
            return NONE;
        }

        int lastPlaceOf(int value) {
            for (int place = length - 1; place >= 0; place--) {
                if (valueAt(place) == value) {
                    return place;
                }
            }
            return NONE;
        }

        boolean isSameFrom(int from, Row other, int from2) {
            int places = length - from;
            if (places != other.length - from2) {
                return false;
            }
            for (int k = 0; k < places; k++) {
                if (valueAt(from + k) != other.valueAt(from2 + k)) {
                    return false;
                }
            }
            return true;
        }

        int mismatchWith(Row other) {
            int shorter = Math.min(length, other.length);
            for (int place = 0; place < shorter; place++) {
                if (valueAt(place) != other.valueAt(place)) {
                    return place;
                }
            }
            return length == other.length ? NONE : shorter;
        }

        int orderTo(Row other) {
            int place = mismatchWith(other);
            if (place == NONE) {
                return 0;
            }
            boolean isInBoth = hasPlace(place) && other.hasPlace(place);
            boolean isAhead = isInBoth ? valueAt(place) < other.valueAt(place) : length < other.length;
            return isAhead ? -1 : 1;
        }

        int hashOfValues() {
            int hash = 1;
            for (int place = 0; place < length; place++) {
                hash = 31 * hash + valueAt(place);
            }
            return hash;
        }
    }
}
