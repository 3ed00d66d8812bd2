import java.util.Arrays;

/**
 * Rows without VALUES, rows of 24 places, and what lies just outside: the sentence of the document
 * that is tested stands over each test.
 */
public final class LengthEdgesTest {
    private static final int MOST = 24;
    private static final int[] LENGTHS = {0, 1, 2, 23, MOST};
    private static final int[] FAR = {
        Integer.MIN_VALUE, Integer.MIN_VALUE + 1, Integer.MAX_VALUE - 1, Integer.MAX_VALUE
    };

    private static final Check check = new Check();

    public static void main(String[] args) {
        for (int kind = 0; kind < 5; kind++) {
            withoutValuesAtFirst(kind);
            allLengths(kind);
            lengthsThatAreNone(kind);
            whatWasCutIsGone(kind);
            copies(kind);
            for (int places : LENGTHS) {
                placesOfPut(kind, places);
                placesOfAt(kind, places);
                filled(kind, places);
                sorted(kind, places);
                searched(kind, places);
                heldBesideItself(kind, places);
            }
            heldBesideShorter(kind);
            anotherAtOnePlace(kind);
        }
        for (int places : LENGTHS) {
            toldByRule(places);
            hashed(places);
            written(places);
        }
        check.finish("LengthEdgesTest");
    }

    private static Rowbench bench(int kind, int places) {
        Rowbench x = new Rowbench();
        Check.lay(x, kind, 0, Check.ramp(places, 1, 1));
        return x;
    }

    /** 1. Rows: "Of each KIND there are the ROWS 0 to 2, at first without VALUES." */
    private static void withoutValuesAtFirst(int kind) {
        for (int row = 0; row < 3; row++) {
            int r = row;
            Rowbench x = new Rowbench();
            check.same("1: no places at first", x.length(kind, row), 0);
            check.noPlace("13: no place 0 at first", x, () -> x.at(kind, r, 0));
            check.refused("6: no place 0 at first", x, () -> x.put(kind, r, 0, 1));
            check.same("2: had none at first", x.resize(kind, row, 1), 0);
            check.same("12: has one now", x.length(kind, row), 1);
            check.same("35: no other row has", x.house(0), 1);
        }
    }

    /** 2: "with what it has, as far as there is room, and 0 behind", "Returns how many it had". */
    private static void allLengths(int kind) {
        for (int had = 0; had <= MOST; had++) {
            for (int length = 0; length <= MOST; length++) {
                int l = length;
                String what = "2: from " + had + " to " + length + " of kind " + kind;
                Rowbench x = bench(kind, had);
                check.answers(what, x, had, () -> x.resize(kind, 0, l));
                check.same(what + " has", x.length(kind, 0), length);
                int[] due = Arrays.copyOf(Check.ramp(had, 1, 1), length);
                check.same(what + " tells", Check.row(x, kind, 0), Check.values(due));
            }
        }
    }

    /** 2: "REFUSED if length is below 0", "Throws IllegalArgumentException if length is above 24". */
    private static void lengthsThatAreNone(int kind) {
        for (int had : LENGTHS) {
            for (int no : new int[] {-1, -2, -24, -25, -99, Integer.MIN_VALUE}) {
                Rowbench x = bench(kind, had);
                check.refused("2: " + had + " to " + no, x, () -> x.resize(kind, 0, no));
            }
            for (int no : new int[] {25, 26, 30, Integer.MAX_VALUE}) {
                Rowbench x = bench(kind, had);
                check.noValue("2: " + had + " to " + no, x, () -> x.resize(kind, 0, no));
            }
        }
    }

    /** 2: "0 behind", where a row was longer once, and where another one stood there. */
    private static void whatWasCutIsGone(int kind) {
        for (int kept : new int[] {0, 1, 23}) {
            Rowbench x = bench(kind, MOST);
            x.resize(kind, 0, kept);
            x.resize(kind, 0, MOST);
            int[] due = Arrays.copyOf(Check.ramp(kept, 1, 1), MOST);
            check.same("2: cut to " + kept, Check.row(x, kind, 0), Check.values(due));
        }
        Rowbench x = bench(kind, MOST);
        x.share(kind, 0, 1);
        x.copy(kind, 2, 1);
        x.copy(kind, 1, 0);
        for (int row = 0; row < 3; row++) {
            x.resize(kind, row, 8);
            check.same("2: 0 alone in " + row, Check.row(x, kind, row), "0 0 0 0 0 0 0 0");
        }
    }

    /** 4: "Returns how many places it has then", of rows without VALUES and of 24 places, and of itself. */
    private static void copies(int kind) {
        for (int places : LENGTHS) {
            for (int had : LENGTHS) {
                Rowbench x = bench(kind, places);
                Check.lay(x, kind, 2, Check.ramp(had, 30, 1));
                check.answers("4: " + places + " over " + had, x, places, () -> x.copy(kind, 0, 2));
                check.same("4: tells", Check.row(x, kind, 2), Check.values(Check.ramp(places, 1, 1)));
                check.same("4: the first is as it was", x.isEqual(kind, 0, 2), true);
            }
            Rowbench x = bench(kind, places);
            check.answers("4: of itself", x, places, () -> x.copy(kind, 0, 0));
            check.same("4: itself", Check.row(x, kind, 0), Check.values(Check.ramp(places, 1, 1)));
        }
    }

    /** 6: "REFUSED if there is no such place"; 1. Rows: "numbered from 0". */
    private static void placesOfPut(int kind, int places) {
        for (int place = -2; place <= MOST + 1; place++) {
            int p = place;
            String what = "6: place " + place + " of " + places;
            Rowbench x = bench(kind, places);
            if (place < 0 || place >= places) {
                check.refused(what, x, () -> x.put(kind, 0, p, 99));
                continue;
            }
            check.answers(what, x, place + 1, () -> x.put(kind, 0, p, 99));
            int[] due = Check.ramp(places, 1, 1);
            due[place] = 99;
            check.same(what + " alone", Check.row(x, kind, 0), Check.values(due));
        }
        for (int no : FAR) {
            Rowbench x = bench(kind, places);
            check.refused("6: far from " + places, x, () -> x.put(kind, 0, no, 99));
        }
    }

    /** 13: "Throws IndexOutOfBoundsException if there is no such [...] place of it". */
    private static void placesOfAt(int kind, int places) {
        for (int place = -2; place <= MOST + 1; place++) {
            int p = place;
            String what = "13: place " + place + " of " + places;
            Rowbench x = bench(kind, places);
            if (place < 0 || place >= places) {
                check.noPlace(what, x, () -> x.at(kind, 0, p));
            } else {
                check.asks(what, x, place + 1, () -> x.at(kind, 0, p));
            }
        }
        for (int no : FAR) {
            Rowbench x = bench(kind, places);
            check.noPlace("13: far from " + places, x, () -> x.at(kind, 0, no));
        }
    }

    /** 7: "Returns how many places", "All places have a VALUE". */
    private static void filled(int kind, int places) {
        Rowbench x = bench(kind, places);
        check.answers("7: of " + places, x, places, () -> x.fill(kind, 0, 50));
        check.same("7: all", Check.row(x, kind, 0), Check.values(Check.ramp(places, 50, 0)));
        check.same("7: none behind", x.length(kind, 0), places);
        x.resize(kind, 0, MOST);
        int[] due = Arrays.copyOf(Check.ramp(places, 50, 0), MOST);
        check.same("7: nothing stood behind", Check.row(x, kind, 0), Check.values(due));
    }

    /** 10: "Returns how many places", of each row that falls, from its first place to its last one. */
    private static void sorted(int kind, int places) {
        Rowbench x = new Rowbench();
        Check.lay(x, kind, 0, Check.ramp(places, places, -1));
        check.answers("10: of " + places, x, places, () -> x.sort(kind, 0));
        check.same("10: falling", Check.row(x, kind, 0), Check.values(Check.ramp(places, 1, 1)));
        check.answers("10: again", x, places, () -> x.sort(kind, 0));
        check.same("10: rising", Check.row(x, kind, 0), Check.values(Check.ramp(places, 1, 1)));
        x.fill(kind, 0, 9);
        x.sort(kind, 0);
        check.same("10: all the same", Check.row(x, kind, 0), Check.values(Check.ramp(places, 9, 0)));
    }

    /** 14: "0 if it is there; otherwise -1, and less by how many are less than it". */
    private static void searched(int kind, int places) {
        Rowbench x = new Rowbench();
        Check.lay(x, kind, 0, Check.ramp(places, 10, 2));
        check.asks("14: below all of " + places, x, -1, () -> x.search(kind, 0, 9));
        check.asks("14: above all of " + places, x, -1 - places, () -> x.search(kind, 0, 10 + 2 * places));
        for (int place = 0; place < places; place++) {
            int value = 10 + 2 * place;
            check.same("14: at " + place, x.search(kind, 0, value), 0);
            check.same("14: behind " + place, x.search(kind, 0, value + 1), -1 - (place + 1));
        }
        // The first two, and the last two, are the only ones of which one stands ahead of a smaller one.
        if (places >= 2) {
            x.put(kind, 0, 0, 13);
            check.fallen("14: the first two of " + places, x, () -> x.search(kind, 0, 13));
            x.put(kind, 0, 0, 12);
            check.same("14: the first two are the same", x.search(kind, 0, 11), -1);
            x.put(kind, 0, places - 1, 11);
            check.fallen("14: the last two of " + places, x, () -> x.search(kind, 0, 12));
        }
    }

    /** 16, 18, 19: a row beside itself, and beside a copy of it: "NONE, if both are the same", "0 otherwise". */
    private static void heldBesideItself(int kind, int places) {
        Rowbench x = bench(kind, places);
        x.copy(kind, 0, 1);
        for (int other = 0; other < 2; other++) {
            int o = other;
            check.asks("16: the same " + places, x, true, () -> x.isEqual(kind, 0, o));
            check.asks("18: the same " + places, x, 0, () -> x.order(kind, 0, o));
            check.asks("19: the same " + places, x, -1, () -> x.mismatch(kind, 0, o));
        }
    }

    /**
     * 1. Rows, ORDER: "without such a place the shorter one"; MISMATCH: "without one how long the
     * shorter one is". What is longer has 0 behind, or the greatest VALUE, which must not matter.
     */
    private static void heldBesideShorter(int kind) {
        for (int shorter : new int[] {0, 1, 22, 23}) {
            for (int last : new int[] {0, Check.LOWEST[kind], Check.HIGHEST[kind]}) {
                Rowbench x = bench(kind, shorter);
                x.range(kind, 0, 1, 0, shorter + 1);
                x.put(kind, 1, shorter, last);
                String what = " of " + shorter + " and one more, " + last;
                check.same("16: values" + what, x.isEqual(kind, 0, 1) || x.isEqual(kind, 1, 0), false);
                check.same("18: ahead" + what, x.order(kind, 0, 1), -1);
                check.same("18: behind" + what, x.order(kind, 1, 0), 1);
                check.same("19: how long" + what, x.mismatch(kind, 0, 1), shorter);
                check.same("19: how long the other way round" + what, x.mismatch(kind, 1, 0), shorter);
            }
        }
    }

    /** 1. Rows, ORDER: "at the first place at which they are not the same the smaller VALUE is ahead". */
    private static void anotherAtOnePlace(int kind) {
        for (int place = 0; place < MOST; place++) {
            Rowbench x = bench(kind, MOST);
            x.copy(kind, 0, 1);
            x.put(kind, 1, place, 50);
            // Behind that place the other one has smaller ones, which must not matter.
            x.fillPart(kind, 1, place + 1, MOST, 0);
            check.same("16: another at " + place, x.isEqual(kind, 0, 1), false);
            check.same("18: ahead at " + place, x.order(kind, 0, 1), -1);
            check.same("18: behind at " + place, x.order(kind, 1, 0), 1);
            check.same("19: at " + place, x.mismatch(kind, 0, 1), place);
            x.resize(kind, 0, place + 1);
            check.same("18: ahead as the shorter one", x.order(kind, 0, 1), -1);
            x.resize(kind, 1, place + 1);
            x.resize(kind, 0, MOST);
            check.same("18: ahead as the longer one", x.order(kind, 0, 1), -1);
        }
    }

    /** 9: "Returns how many places", "at the place k there is start + step * k". */
    private static void toldByRule(int places) {
        Rowbench x = new Rowbench();
        x.resize(0, 1, places);
        check.answers("9: of " + places, x, places, () -> x.ramp(1, -7, 3));
        check.same("9: the rule", Check.row(x, 0, 1), Check.values(Check.ramp(places, -7, 3)));
        x.resize(0, 1, MOST);
        int[] due = Arrays.copyOf(Check.ramp(places, -7, 3), MOST);
        check.same("9: nothing stood behind", Check.row(x, 0, 1), Check.values(due));
    }

    /** 1. Rows: "HASH of INTS: beginning with 1, VALUE by VALUE 31 times that and the VALUE more". */
    private static void hashed(int places) {
        Rowbench x = bench(0, places);
        check.asks("21: of " + places, x, Arrays.hashCode(Check.ramp(places, 1, 1)), () -> x.hash(0));
    }

    /** 2. Boxes, lists: "As a text: "[", its VALUES with ", " between, "]" [...] ("[]" without VALUES)". */
    private static void written(int places) {
        Rowbench x = bench(0, places);
        check.asks("22: of " + places, x, Arrays.toString(Check.ramp(places, 1, 1)), () -> x.text(0));
        x.fill(0, 0, Integer.MIN_VALUE);
        String due = Arrays.toString(Check.ramp(places, Integer.MIN_VALUE, 0));
        check.asks("22: the longest of " + places, x, due, () -> x.text(0));
    }
}
