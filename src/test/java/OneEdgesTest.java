import java.util.Arrays;

/**
 * Rows that are ONE: each way in which three rows can be ONE, with each change of each row. The
 * sentence of the document that is tested stands over each test.
 */
public final class OneEdgesTest {
    /** Rows with the same letter are ONE. */
    private static final String[] WAYS = {"abc", "aab", "aba", "abb", "aaa"};

    private static final Check check = new Check();

    private interface Change {
        Object of(Rowbench x, int row);
    }

    private interface PairChange {
        Object of(Rowbench x, int row, int other);
    }

    public static void main(String[] args) {
        for (int kind = 0; kind < 5; kind++) {
            noneAtFirst(kind);
            for (String way : WAYS) {
                told(kind, way);
                changedInAll(kind, way);
                becomesAnother(kind, way);
                becomesItself(kind, way);
                whatDoesNotBecomeStays(kind, way);
                shared(kind, way);
            }
            sharedWithItself(kind);
            twoLeave(kind);
            withoutValues(kind);
            sameButNotOne(kind);
        }
        toldByRuleInAll();
        oneOfAnotherKind();
        check.finish("OneEdgesTest");
    }

    /** The rows are 1 2 3, 11 12 13 and 21 22 23, but that what is ONE is the first one of these. */
    private static Rowbench bench(int kind, String way) {
        Rowbench x = new Rowbench();
        for (int row = 0; row < 3; row++) {
            Check.lay(x, kind, row, valuesOf(row));
        }
        for (int row = 1; row < 3; row++) {
            int first = way.indexOf(way.charAt(row));
            if (first < row) {
                x.share(kind, first, row);
            }
        }
        return x;
    }

    private static int[] valuesOf(int row) {
        return Check.ramp(3, 10 * row + 1, 1);
    }

    private static boolean isOne(String way, int row, int other) {
        return way.charAt(row) == way.charAt(other);
    }

    private static String due(String way, int row) {
        return Check.values(valuesOf(way.indexOf(way.charAt(row))));
    }

    private static void isWay(String what, Rowbench x, int kind, String way) {
        int pairs = 0;
        for (int row = 0; row < 3; row++) {
            for (int other = 0; other < 3; other++) {
                boolean isOne = isOne(way, row, other);
                check.same(what + ": " + row + " and " + other + " of " + way, x.isOne(kind, row, other), isOne);
                pairs += isOne && row < other ? 1 : 0;
            }
        }
        check.same(what + ": pairs of " + way, x.house(3), pairs);
    }

    /** The way in which that row is ONE with none, and the two others are as they were. */
    private static String without(String way, int row) {
        StringBuilder left = new StringBuilder(way);
        left.setCharAt(row, 'z');
        return left.toString();
    }

    /** 1. Rows: "At first none are"; 17: "whether both are ONE (or the same)". */
    private static void noneAtFirst(int kind) {
        isWay("17: at first", new Rowbench(), kind, "abc");
        Rowbench x = new Rowbench();
        check.same("16: they have the same VALUES, none", x.isEqual(kind, 0, 1), true);
        check.same("17: but are not ONE", x.isOne(kind, 0, 1), false);
    }

    /** 17, and 35: "how many pairs of ROWS of a KIND are ONE", "ROWS that are ONE count each". */
    private static void told(int kind, String way) {
        Rowbench x = bench(kind, way);
        isWay("17", x, kind, way);
        check.same("35: places of " + way, x.house(0), 9);
        for (int row = 0; row < 3; row++) {
            check.same("5: row " + row + " of " + way, Check.row(x, kind, row), due(way, row));
        }
    }

    /** 1. Rows: "what is put, filled, told by a rule or sorted in one of them is so in all of these". */
    private static void changedInAll(int kind, String way) {
        inAll("6: put", kind, way, (x, row) -> x.put(kind, row, 2, 50), " 50", 2);
        inAll("7: filled", kind, way, (x, row) -> x.fill(kind, row, 50), "50 50 50", 0);
        inAll("8: filled in part", kind, way, (x, row) -> x.fillPart(kind, row, 1, 3, 50), " 50 50", 1);
        for (int row = 0; row < 3; row++) {
            sortedInAll("10", kind, way, row, (x, r) -> x.sort(kind, r));
            sortedInAll("11", kind, way, row, (x, r) -> x.sortPart(kind, r, 0, 3));
        }
    }

    /** From a place on a row is changed: so are those that are ONE with it, and no others. */
    private static void inAll(String what, int kind, String way, Change change, String changed, int kept) {
        for (int row = 0; row < 3; row++) {
            Rowbench x = bench(kind, way);
            change.of(x, row);
            for (int other = 0; other < 3; other++) {
                int[] values = valuesOf(way.indexOf(way.charAt(other)));
                String keptValues = Check.values(Arrays.copyOf(values, kept));
                String due = isOne(way, row, other) ? keptValues + changed : due(way, other);
                check.same(what + " in " + row + ", row " + other + " of " + way, Check.row(x, kind, other), due);
            }
            isWay(what, x, kind, way);
        }
    }

    private static void sortedInAll(String promise, int kind, String way, int row, Change sorting) {
        Rowbench x = bench(kind, way);
        int first = x.at(kind, row, 0);
        x.put(kind, row, 0, 99);
        sorting.of(x, row);
        String sorted = Check.values(first + 1, first + 2, 99);
        for (int other = 0; other < 3; other++) {
            String due = isOne(way, row, other) ? sorted : due(way, other);
            String what = promise + ": sorted in " + row + ", row " + other + " of " + way;
            check.same(what, Check.row(x, kind, other), due);
        }
        isWay(promise, x, kind, way);
    }

    /** 9: "INTS are told by a rule": of these there are such rows alone. */
    private static void toldByRuleInAll() {
        for (String way : WAYS) {
            for (int row = 0; row < 3; row++) {
                Rowbench x = bench(0, way);
                x.ramp(row, 70, 5);
                for (int other = 0; other < 3; other++) {
                    String due = isOne(way, row, other) ? "70 75 80" : due(way, other);
                    check.same("9: by a rule in " + row + ", row " + other, Check.row(x, 0, other), due);
                }
                isWay("9", x, 0, way);
            }
        }
    }

    /**
     * 1. Rows: "A ROW that becomes another row (by resize(), range(), copy(), also of the same
     * length [...]) is no more ONE with those with which it was."
     */
    private static void becomesAnother(int kind, String way) {
        becomes("2: longer", kind, way, (x, row) -> x.resize(kind, row, 4), 3);
        becomes("2: shorter", kind, way, (x, row) -> x.resize(kind, row, 2), 3);
        becomes("2: of the same length", kind, way, (x, row) -> x.resize(kind, row, 3), 3);
        becomes("2: without VALUES", kind, way, (x, row) -> x.resize(kind, row, 0), 3);
        for (int step = 1; step < 3; step++) {
            int s = step;
            becomes("3: another", kind, way, (x, row) -> x.range(kind, (row + s) % 3, row, 0, 3), 3);
            becomes("3: nothing of another", kind, way, (x, row) -> x.range(kind, (row + s) % 3, row, 3, 3), 0);
            becomes("4: another", kind, way, (x, row) -> x.copy(kind, (row + s) % 3, row), 3);
        }
    }

    /** 1. Rows: the same "[...] or of itself". */
    private static void becomesItself(int kind, String way) {
        becomes("3: itself", kind, way, (x, row) -> x.range(kind, row, row, 0, 3), 3);
        becomes("3: a part of itself", kind, way, (x, row) -> x.range(kind, row, row, 1, 2), 1);
        becomes("4: itself", kind, way, (x, row) -> x.copy(kind, row, row), 3);
        for (int row = 0; row < 3; row++) {
            Rowbench x = bench(kind, way);
            x.resize(kind, row, 3);
            x.range(kind, row, row, 0, 3);
            x.copy(kind, row, row);
            check.same("4: has what it had", Check.row(x, kind, row), due(way, row));
        }
    }

    /** The row is ONE with none then, the two others are as they were, and neither changes the other. */
    private static void becomes(String what, int kind, String way, Change change, Object answer) {
        for (int row = 0; row < 3; row++) {
            int r = row;
            Rowbench x = bench(kind, way);
            check.answers(what + ": answers", x, answer, () -> change.of(x, r));
            isWay(what + ": row " + row, x, kind, without(way, row));
            for (int other = 0; other < 3; other++) {
                if (other != row) {
                    check.same(what + ": row " + other + " of " + way, Check.row(x, kind, other), due(way, other));
                }
            }
            apart(what, x, kind, row);
        }
    }

    /** What is filled in the row is in no other one, and the other way round. */
    private static void apart(String what, Rowbench x, int kind, int row) {
        int next = (row + 1) % 3;
        int last = (row + 2) % 3;
        String ofNext = Check.row(x, kind, next);
        String ofLast = Check.row(x, kind, last);
        x.fill(kind, row, 60);
        check.same(what + ": next to it", Check.row(x, kind, next), ofNext);
        check.same(what + ": last", Check.row(x, kind, last), ofLast);
        String ofRow = Check.row(x, kind, row);
        x.fill(kind, next, 61);
        x.fill(kind, last, 62);
        check.same(what + ": itself", Check.row(x, kind, row), ofRow);
    }

    /** Description: REFUSED and exceptions change nothing: what was ONE stays so. What is only asked, too. */
    private static void whatDoesNotBecomeStays(int kind, String way) {
        for (int row = 0; row < 3; row++) {
            int r = row;
            Rowbench x = bench(kind, way);
            check.refused("2: stays", x, () -> x.resize(kind, r, -1));
            check.noValue("2: stays", x, () -> x.resize(kind, r, 25));
            check.refused("3: stays", x, () -> x.range(kind, r, r, 4, 4));
            check.refused("3: stays", x, () -> x.range(kind, (r + 1) % 3, r, -1, 2));
            check.noValue("3: stays", x, () -> x.range(kind, r, r, 0, 25));
            check.noPlace("3: stays", x, () -> x.range(kind, 3, r, 0, 3));
            check.noPlace("4: stays", x, () -> x.copy(kind, 3, r));
            check.noPlace("4: stays", x, () -> x.copy(kind, r, 3));
            check.noPlace("5: stays", x, () -> x.share(kind, 3, r));
            check.noPlace("5: stays", x, () -> x.share(kind, r, 3));
            check.same("36: sound", x.isSound(), true);
            isWay("stays", x, kind, way);
            // The row that is looked at becomes no other one.
            x.copy(kind, row, (row + 1) % 3);
            isWay("4: the first stays", x, kind, without(way, (row + 1) % 3));
        }
    }

    /** 5: "the other one becomes the first one itself", "Returns 1 if they were ONE already (or are the same)". */
    private static void shared(int kind, String way) {
        for (int row = 0; row < 3; row++) {
            for (int other = 0; other < 3; other++) {
                int r = row;
                int o = other;
                String what = "5: " + row + " and " + other + " of " + way;
                Rowbench x = bench(kind, way);
                if (isOne(way, row, other)) {
                    check.asks(what, x, 1, () -> x.share(kind, r, o));
                    continue;
                }
                check.answers(what, x, 0, () -> x.share(kind, r, o));
                StringBuilder then = new StringBuilder(way);
                then.setCharAt(other, way.charAt(row));
                isWay(what, x, kind, then.toString());
                check.same(what + ": the other one", Check.row(x, kind, other), due(way, row));
                // Those with which the other one was ONE stay as they were.
                int third = 3 - row - other;
                check.same(what + ": the first one", Check.row(x, kind, row), due(way, row));
                check.same(what + ": the third one", Check.row(x, kind, third), due(way, third));
                check.asks(what + ", again", x, 1, () -> x.share(kind, r, o));
                check.asks(what + ", turned round", x, 1, () -> x.share(kind, o, r));
            }
        }
    }

    /** 5: "(or are the same)", of rows without VALUES and of 24 places too. */
    private static void sharedWithItself(int kind) {
        for (int places : new int[] {0, 1, 24}) {
            Rowbench x = new Rowbench();
            x.resize(kind, 0, places);
            check.asks("5: itself", x, 1, () -> x.share(kind, 0, 0));
            check.answers("5: one of " + places, x, 0, () -> x.share(kind, 0, 2));
            check.same("5: has as many", x.length(kind, 2), places);
            check.answers("5: without VALUES", x, 0, () -> x.share(kind, 1, 2));
            check.same("5: has none", x.length(kind, 2), 0);
        }
    }

    /** 1. Rows: the same of rows without VALUES: they are ONE, and what becomes another row leaves them. */
    private static void withoutValues(int kind) {
        leavesNothing("2: longer", kind, x -> x.resize(kind, 1, 2), 0, 2);
        leavesNothing("2: without VALUES still", kind, x -> x.resize(kind, 1, 0), 0, 0);
        leavesNothing("3: longer", kind, x -> x.range(kind, 1, 1, 0, 2), 2, 2);
        leavesNothing("3: nothing of another", kind, x -> x.range(kind, 0, 1, 0, 0), 0, 0);
        leavesNothing("4: itself", kind, x -> x.copy(kind, 1, 1), 0, 0);
        leavesNothing("4: another", kind, x -> x.copy(kind, 2, 1), 0, 0);
    }

    private interface Leaving {
        Object of(Rowbench x);
    }

    /** All are ONE and without VALUES: row 1 leaves, and has that many places then. */
    private static void leavesNothing(String what, int kind, Leaving leaving, int answer, int places) {
        Rowbench x = new Rowbench();
        check.answers("5: nothing", x, 0, () -> x.share(kind, 0, 1));
        check.answers("5: nothing", x, 0, () -> x.share(kind, 1, 2));
        isWay("5: nothing", x, kind, "aaa");
        check.answers(what, x, answer, () -> leaving.of(x));
        isWay(what, x, kind, "aba");
        check.same(what + ": has", x.length(kind, 1), places);
        check.same(what + ": those have none", x.length(kind, 0) + x.length(kind, 2), 0);
    }

    /** 5: "Returns 1 if they were ONE already": rows with the same VALUES are not ONE by that. */
    private static void sameButNotOne(int kind) {
        Rowbench x = bench(kind, "abc");
        x.copy(kind, 0, 1);
        check.same("16: the same VALUES", x.isEqual(kind, 0, 1), true);
        isWay("17: the same VALUES", x, kind, "abc");
        check.answers("5: the same VALUES", x, 0, () -> x.share(kind, 0, 1));
        isWay("5: the same VALUES", x, kind, "aab");
    }

    /** 1. Rows: of three that are ONE two leave, one after the other, and come back as a pair. */
    private static void twoLeave(int kind) {
        for (int first = 0; first < 3; first++) {
            for (int second = 0; second < 3; second++) {
                Rowbench x = bench(kind, "aaa");
                x.copy(kind, first, first);
                x.resize(kind, second, 3);
                isWay("2: two left", x, kind, first == second ? without("aaa", first) : "abc");
                apart("2: of its own", x, kind, first);
                x.share(kind, first, second);
                check.same("5: came back", x.isOne(kind, first, second), true);
            }
        }
    }

    /** 1. Rows: "ROWS of one KIND may be ONE": those of others stay as they are. */
    private static void oneOfAnotherKind() {
        for (int kind = 0; kind < 5; kind++) {
            Rowbench x = bench(kind, "aaa");
            for (int other = 0; other < 5; other++) {
                if (other != kind) {
                    check.same("17: of another kind", x.isOne(other, 0, 1) || x.isOne(other, 1, 2), false);
                    check.same("12: of another kind", x.length(other, 0) + x.length(other, 1) + x.length(other, 2), 0);
                }
            }
            check.same("35: pairs", x.house(3), 3);
        }
    }
}
