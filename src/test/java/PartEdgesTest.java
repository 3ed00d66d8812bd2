import java.util.Arrays;

/**
 * Where a part begins and ends: each from with each to, as far as it is allowed and one farther. The
 * sentence of the document that is tested stands over each test.
 */
public final class PartEdgesTest {
    private static final int MOST = 24;
    private static final int LEAST_INT = Integer.MIN_VALUE;
    private static final int MOST_INT = Integer.MAX_VALUE;
    private static final int[] LENGTHS = {0, 1, 4, 23, MOST};

    private static final Check check = new Check();

    public static void main(String[] args) {
        for (int kind = 0; kind < 5; kind++) {
            for (int places : LENGTHS) {
                eachPart(kind, places);
                eachRange(kind, places);
                eachEqualFrom(kind, places);
            }
            searchOutsideThePart(kind);
            rangeOfItself(kind);
            rangeOfOneWithIt(kind);
            namedRanges(kind);
            rangeOfTheFirst(kind);
            namedEqualFrom(kind);
            equalFromOfZeros(kind);
        }
        check.finish("PartEdgesTest");
    }

    private static Rowbench bench(int kind, int places) {
        Rowbench x = new Rowbench();
        Check.lay(x, kind, 0, falling(places));
        return x;
    }

    private static int[] falling(int places) {
        return Check.ramp(places, 100, -1);
    }

    // ---- fillPart, sortPart, searchPart

    /** 1. Rows: "It is REFUSED, if from is above to, from is below 0, or to is above how many places there are". */
    private static void eachPart(int kind, int places) {
        int[] ends = ends(places);
        for (int from : ends) {
            for (int to : ends) {
                if (from >= 0 && from <= to && to <= places) {
                    filledPart(kind, places, from, to);
                    sortedPart(kind, places, from, to);
                    searchedPart(kind, places, from, to);
                } else {
                    refusedPart(kind, places, from, to);
                }
            }
        }
    }

    /** All ends from two below the row to two above it, and the farthest ones. */
    private static int[] ends(int places) {
        int[] ends = Arrays.copyOf(Check.ramp(places + 5, -2, 1), places + 7);
        ends[places + 5] = LEAST_INT;
        ends[places + 6] = MOST_INT;
        return ends;
    }

    private static void refusedPart(int kind, int places, int from, int to) {
        String what = " from " + from + " to " + to + " of " + places;
        Rowbench x = bench(kind, places);
        check.refused("8:" + what, x, () -> x.fillPart(kind, 0, from, to, 7));
        check.refused("11:" + what, x, () -> x.sortPart(kind, 0, from, to));
        check.refused("15:" + what, x, () -> x.searchPart(kind, 0, from, to, 7));
        check.same("35: three were refused" + what, x.house(2), 3);
    }

    /** 8: "A PART has a VALUE at each place", "Returns how many places"; to "is not in it". */
    private static void filledPart(int kind, int places, int from, int to) {
        String what = "8: from " + from + " to " + to + " of " + places;
        Rowbench x = bench(kind, places);
        int[] due = falling(places);
        Arrays.fill(due, from, to, 7);
        check.answers(what, x, to - from, () -> x.fillPart(kind, 0, from, to, 7));
        check.same(what + " tells", Check.row(x, kind, 0), Check.values(due));
    }

    /** 11: "A PART is SORTED", "Returns how many places". */
    private static void sortedPart(int kind, int places, int from, int to) {
        String what = "11: from " + from + " to " + to + " of " + places;
        Rowbench x = bench(kind, places);
        int[] due = falling(places);
        Arrays.sort(due, from, to);
        check.answers(what, x, to - from, () -> x.sortPart(kind, 0, from, to));
        check.same(what + " tells", Check.row(x, kind, 0), Check.values(due));
    }

    /** 15: "-1, and less by how many ahead of the PART there are, and how many in it are less than it". */
    private static void searchedPart(int kind, int places, int from, int to) {
        String what = "15: from " + from + " to " + to + " of " + places;
        Rowbench x = new Rowbench();
        Check.lay(x, kind, 0, Check.ramp(places, 10, 2));
        check.asks(what + ", below all", x, -1 - from, () -> x.searchPart(kind, 0, from, to, 9 + 2 * from));
        check.asks(what + ", above all", x, -1 - to, () -> x.searchPart(kind, 0, from, to, 9 + 2 * to));
        if (from < to) {
            check.asks(what + ", the first", x, 0, () -> x.searchPart(kind, 0, from, to, 10 + 2 * from));
            check.asks(what + ", the last", x, 0, () -> x.searchPart(kind, 0, from, to, 8 + 2 * to));
        }
        if (from > 0) {
            int ahead = 8 + 2 * from;
            check.asks(what + ", the one ahead of it", x, -1 - from, () -> x.searchPart(kind, 0, from, to, ahead));
        }
        if (to < places) {
            int behind = 10 + 2 * to;
            check.asks(what + ", the one behind it", x, -1 - to, () -> x.searchPart(kind, 0, from, to, behind));
        }
    }

    /** 15: "Throws IllegalStateException if there is such a PART, and in it one stands ahead of a smaller one". */
    private static void searchOutsideThePart(int kind) {
        Rowbench x = new Rowbench();
        Check.lay(x, kind, 0, 9, 3, 3, 5, 4);
        check.asks("15: outside it alone", x, -4, () -> x.searchPart(kind, 0, 1, 4, 4));
        check.asks("15: one place alone", x, 0, () -> x.searchPart(kind, 0, 0, 1, 9));
        check.asks("15: no place", x, -5, () -> x.searchPart(kind, 0, 4, 4, 4));
        check.fallen("15: the first two of it", x, () -> x.searchPart(kind, 0, 0, 2, 9));
        check.fallen("15: the last two of it", x, () -> x.searchPart(kind, 0, 1, 5, 3));
        check.fallen("15: all", x, () -> x.searchPart(kind, 0, 0, 5, 3));
        check.refused("15: no such PART", x, () -> x.searchPart(kind, 0, 0, 6, 3));
        check.refused("15: no such PART, below", x, () -> x.searchPart(kind, 0, -1, 5, 3));
        check.refused("15: no such PART, turned round", x, () -> x.searchPart(kind, 0, 5, 0, 3));
    }

    // ---- range

    /**
     * 3: "REFUSED if from is above to, below 0, or above how many places there are (to may be above)",
     * "Throws IllegalArgumentException if from or to is not -30 to 30, or to - from above 24".
     */
    private static void eachRange(int kind, int places) {
        for (int from = -32; from <= 32; from++) {
            for (int to = -32; to <= 32; to++) {
                oneRange(kind, places, from, to);
            }
        }
        for (int far : new int[] {LEAST_INT, MOST_INT}) {
            for (int to : new int[] {LEAST_INT, -30, 0, 1, 30, MOST_INT}) {
                oneRange(kind, places, far, to);
                oneRange(kind, places, to, far);
            }
        }
    }

    private static void oneRange(int kind, int places, int from, int to) {
        String what = "3: from " + from + " to " + to + " of " + places;
        boolean isFar = from < -30 || from > 30 || to < -30 || to > 30;
        Rowbench x = bench(kind, places);
        x.resize(kind, 1, 2);
        if (isFar || to - from > MOST) {
            check.noValue(what, x, () -> x.range(kind, 0, 1, from, to));
        } else if (from > to || from < 0 || from > places) {
            check.refused(what, x, () -> x.range(kind, 0, 1, from, to));
        } else {
            check.answers(what, x, to - from, () -> x.range(kind, 0, 1, from, to));
            int[] due = Arrays.copyOfRange(falling(places), from, to);
            check.same(what + " tells", Check.row(x, kind, 1), Check.values(due));
            check.same(what + " leaves the other", Check.row(x, kind, 0), Check.values(falling(places)));
        }
    }

    /** 3: "the ROW that becomes that (may be the same)", "(0 behind its end)". */
    private static void rangeOfItself(int kind) {
        for (int places : LENGTHS) {
            for (int from = 0; from <= places; from++) {
                for (int to = from; to <= from + MOST && to <= 30; to++) {
                    int f = from;
                    int t = to;
                    Rowbench x = bench(kind, places);
                    check.answers("3: of itself", x, to - from, () -> x.range(kind, 0, 0, f, t));
                    int[] due = Arrays.copyOfRange(falling(places), from, to);
                    check.same("3: itself from " + from + " to " + to, Check.row(x, kind, 0), Check.values(due));
                }
            }
        }
    }

    /** The same of a row that is ONE with it: what is looked at stays as it was. */
    private static void rangeOfOneWithIt(int kind) {
        for (int from = 0; from <= MOST; from++) {
            int f = from;
            int to = Math.min(30, from + MOST);
            Rowbench x = bench(kind, MOST);
            x.share(kind, 0, 1);
            check.answers("3: of one with it", x, to - from, () -> x.range(kind, 0, 1, f, to));
            int[] due = Arrays.copyOfRange(falling(MOST), from, to);
            check.same("3: one with it from " + from, Check.row(x, kind, 1), Check.values(due));
            check.same("3: the one with it", Check.row(x, kind, 0), Check.values(falling(MOST)));
        }
    }

    /** 3: the last from and to that are allowed, and the first that are not, one by one. */
    private static void namedRanges(int kind) {
        Rowbench x = bench(kind, MOST);
        check.answers("3: nothing of the end", x, 0, () -> x.range(kind, 0, 1, 24, 24));
        check.answers("3: from the end to the farthest", x, 6, () -> x.range(kind, 0, 1, 24, 30));
        check.same("3: 0 alone behind the end", Check.row(x, kind, 1), "0 0 0 0 0 0");
        check.answers("3: 24 up to the farthest", x, 24, () -> x.range(kind, 0, 1, 6, 30));
        check.answers("3: 24 from the first", x, 24, () -> x.range(kind, 0, 1, 0, 24));
        check.refused("3: from one above the end", x, () -> x.range(kind, 0, 1, 25, 25));
        check.refused("3: from one above the end, to above", x, () -> x.range(kind, 0, 1, 25, 30));
        check.refused("3: from one above to", x, () -> x.range(kind, 0, 1, 1, 0));
        check.refused("3: from one below 0", x, () -> x.range(kind, 0, 1, -1, 0));
        check.refused("3: 24 from one below 0", x, () -> x.range(kind, 0, 1, -1, 23));
        check.refused("3: both the farthest", x, () -> x.range(kind, 0, 1, 30, 30));
        check.refused("3: both the farthest below", x, () -> x.range(kind, 0, 1, -30, -30));
        check.refused("3: 24 from the farthest below", x, () -> x.range(kind, 0, 1, -30, -6));
        check.refused("3: the farthest turned round", x, () -> x.range(kind, 0, 1, 30, -30));
        check.noValue("3: 25 from the first", x, () -> x.range(kind, 0, 1, 0, 25));
        check.noValue("3: 25 up to the farthest", x, () -> x.range(kind, 0, 1, 5, 30));
        check.noValue("3: 25 from one below 0", x, () -> x.range(kind, 0, 1, -1, 24));
        check.noValue("3: 25 from the farthest below", x, () -> x.range(kind, 0, 1, -30, -5));
        check.noValue("3: from is 31", x, () -> x.range(kind, 0, 1, 31, 30));
        check.noValue("3: from is -31", x, () -> x.range(kind, 0, 1, -31, -30));
        check.noValue("3: to is 31", x, () -> x.range(kind, 0, 1, 24, 31));
        check.noValue("3: to is -31", x, () -> x.range(kind, 0, 1, 0, -31));
        // to - from wraps around to 24 and less.
        check.noValue("3: wraps to -1", x, () -> x.range(kind, 0, 1, LEAST_INT, MOST_INT));
        check.noValue("3: wraps to 1", x, () -> x.range(kind, 0, 1, MOST_INT, LEAST_INT));
        check.noValue("3: wraps below 0", x, () -> x.range(kind, 0, 1, LEAST_INT, 24));
    }

    /** 3: places are told of the row that is looked at, not of the one that becomes that. */
    private static void rangeOfTheFirst(int kind) {
        Rowbench x = bench(kind, 2);
        x.resize(kind, 1, MOST);
        check.refused("3: above the first, not the other", x, () -> x.range(kind, 0, 1, 3, 4));
        check.refused("3: above a row without VALUES", x, () -> x.range(kind, 2, 1, 1, 1));
        check.answers("3: of a row without VALUES", x, 0, () -> x.range(kind, 2, 0, 0, 0));
        check.answers("3: of the longer one", x, 1, () -> x.range(kind, 1, 0, 23, 24));
        check.answers("3: 24 of a row without VALUES", x, 24, () -> x.range(kind, 2, 2, 0, 24));
        check.same("3: all 0", Check.row(x, kind, 2), Check.values(new int[MOST]));
    }

    // ---- isEqualFrom

    /**
     * 20: "whether both have the same VALUES from these places on; REFUSED is told as false (if from
     * is below 0 or above how many places there are, of one of both)", "Throws
     * IllegalArgumentException if from or from2 is not -30 to 30".
     */
    private static void eachEqualFrom(int kind, int places) {
        for (int others : LENGTHS) {
            for (int from = -32; from <= 32; from++) {
                Rowbench x = bench(kind, places);
                // The other row ends as the first one does, as far as it goes.
                int[] ends = Check.ramp(others, 100 - places + others, -1);
                Check.lay(x, kind, 1, ends);
                for (int from2 = -32; from2 <= 32; from2++) {
                    Object due = dueEqual(falling(places), from, ends, from2);
                    String what = "20: from " + from + " of " + places + ", " + from2 + " of " + others;
                    int f = from;
                    int f2 = from2;
                    check.same(what, Check.outcome(() -> x.isEqualFrom(kind, 0, f, 1, f2)), due);
                }
                check.same("35: tells no number, so is not counted", x.house(2), 0);
            }
        }
    }

    private static Object dueEqual(int[] first, int from, int[] second, int from2) {
        if (from < -30 || from > 30 || from2 < -30 || from2 > 30) {
            return "throws.IllegalArgumentException";
        }
        if (from < 0 || from > first.length || from2 < 0 || from2 > second.length) {
            return false;
        }
        return Arrays.equals(first, from, first.length, second, from2, second.length);
    }

    /** The same of rows of 0 alone: what stands outside a row is not 0, it is no place. */
    private static void equalFromOfZeros(int kind) {
        for (int places = 0; places <= 3; places++) {
            for (int others = 0; others <= 3; others++) {
                Rowbench x = new Rowbench();
                x.resize(kind, 0, places);
                x.resize(kind, 1, others);
                for (int from = -4; from <= 5; from++) {
                    for (int from2 = -4; from2 <= 5; from2++) {
                        Object due = dueEqual(new int[places], from, new int[others], from2);
                        String what = "20: 0 from " + from + " of " + places + ", " + from2 + " of " + others;
                        int f = from;
                        int f2 = from2;
                        check.same(what, Check.outcome(() -> x.isEqualFrom(kind, 0, f, 1, f2)), due);
                    }
                }
                check.same("35: tells no number, so is not counted", x.house(2), 0);
            }
        }
    }

    /** 20: the last from and from2 that are allowed, and the first that are not, one by one. */
    private static void namedEqualFrom(int kind) {
        Rowbench x = bench(kind, MOST);
        x.copy(kind, 0, 1);
        check.asks("20: all", x, true, () -> x.isEqualFrom(kind, 0, 0, 1, 0));
        check.asks("20: the last places", x, true, () -> x.isEqualFrom(kind, 0, 23, 1, 23));
        check.asks("20: both ends", x, true, () -> x.isEqualFrom(kind, 0, 24, 1, 24));
        check.asks("20: both ends of one row", x, true, () -> x.isEqualFrom(kind, 0, 24, 0, 24));
        check.asks("20: the end of a row without VALUES", x, true, () -> x.isEqualFrom(kind, 0, 24, 2, 0));
        check.asks("20: one end alone", x, false, () -> x.isEqualFrom(kind, 0, 24, 1, 23));
        check.asks("20: the other end alone", x, false, () -> x.isEqualFrom(kind, 0, 23, 1, 24));
        check.asks("20: one above the end", x, false, () -> x.isEqualFrom(kind, 0, 25, 1, 24));
        check.asks("20: the other one above the end", x, false, () -> x.isEqualFrom(kind, 0, 24, 1, 25));
        check.asks("20: both above the end", x, false, () -> x.isEqualFrom(kind, 0, 25, 1, 25));
        check.asks("20: itself above the end", x, false, () -> x.isEqualFrom(kind, 0, 25, 0, 25));
        check.asks("20: both below 0", x, false, () -> x.isEqualFrom(kind, 0, -1, 1, -1));
        check.asks("20: itself below 0", x, false, () -> x.isEqualFrom(kind, 0, -1, 0, -1));
        check.asks("20: both the farthest", x, false, () -> x.isEqualFrom(kind, 0, 30, 1, 30));
        check.asks("20: both the farthest below", x, false, () -> x.isEqualFrom(kind, 0, -30, 1, -30));
        for (int no : new int[] {31, -31, LEAST_INT, MOST_INT}) {
            check.noValue("20: from " + no, x, () -> x.isEqualFrom(kind, 0, no, 1, 0));
            check.noValue("20: from2 " + no, x, () -> x.isEqualFrom(kind, 0, 0, 1, no));
            check.noValue("20: from " + no + ", and REFUSED", x, () -> x.isEqualFrom(kind, 0, no, 1, -1));
            check.noValue("20: from2 " + no + ", and REFUSED", x, () -> x.isEqualFrom(kind, 0, 25, 1, no));
        }
        check.same("35: none was counted", x.house(2), 0);
    }
}
