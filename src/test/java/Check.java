import java.util.Objects;

/**
 * Counts the answers that are due, prints those that are not, and ends a test with exit code 1 then.
 *
 * An object is promised to answer 512 calls: so what a bench tells as a whole is asked by its digest
 * wherever that is enough, as that is one call.
 */
final class Check {
    static final int[] NO_KINDS = {-1, 5, Integer.MIN_VALUE, Integer.MAX_VALUE};
    static final int[] NO_ROWS = {-1, 3, Integer.MIN_VALUE, Integer.MAX_VALUE};

    /** The least and the greatest VALUE of each KIND. */
    static final int[] LOWEST = {Integer.MIN_VALUE, Integer.MIN_VALUE, 0, -128, -32768};
    static final int[] HIGHEST = {Integer.MAX_VALUE, Integer.MAX_VALUE, 65535, 127, 32767};

    static final int REFUSED = -99;

    private int right = 0;
    private int wrong = 0;

    interface Call {
        Object answer();
    }

    interface PairCall {
        Object answer(int kind, int row, int other);
    }

    void same(String what, Object got, Object due) {
        if (Objects.equals(got, due)) {
            right++;
        } else {
            wrong++;
            System.out.println(what + ": answered " + got + ", due is " + due);
        }
    }

    /** The call answers that, and was not refused. */
    void answers(String what, Rowbench x, Object due, Call call) {
        int refusals = x.house(2);
        same(what, outcome(call), due);
        same(what + " is not refused", x.house(2), refusals);
    }

    /** The call answers that, and changes nothing: house() 2 neither. */
    void asks(String what, Rowbench x, Object due, Call call) {
        long before = x.digest();
        same(what, outcome(call), due);
        same(what + " changes nothing", x.digest(), before);
    }

    /** The call throws just that exception, and changes nothing. */
    void fails(String what, Rowbench x, Class<? extends RuntimeException> due, Call call) {
        asks(what, x, "throws." + due.getSimpleName(), call);
    }

    void noPlace(String what, Rowbench x, Call call) {
        fails(what, x, IndexOutOfBoundsException.class, call);
    }

    void noValue(String what, Rowbench x, Call call) {
        fails(what, x, IllegalArgumentException.class, call);
    }

    void fallen(String what, Rowbench x, Call call) {
        fails(what, x, IllegalStateException.class, call);
    }

    /** The call answers REFUSED, which house() 2 counts, and changes nothing else. */
    void refused(String what, Rowbench x, Call call) {
        int refusals = x.house(2);
        long before = x.digest();
        same(what, outcome(call), REFUSED);
        same(what + " is counted", x.house(2), refusals + 1);
        same(what + " changes nothing else", x.digest(), before + onceMoreRefused(x.house(0)));
    }

    /**
     * How much more a digest is when house() 2 is 1 more: 31 times for each number behind it. These
     * are house() 3, 15 lengths, the places, 45 of pairs, 6 of INTS, 16 of BOXES, and 2 at the end.
     */
    private static long onceMoreRefused(int places) {
        long more = 1;
        for (int behind = 0; behind < 1 + 15 + places + 45 + 6 + 16 + 2; behind++) {
            more *= 31;
        }
        return more;
    }

    /** A call on two rows throws if there is no such kind, first row or second row. */
    void badPairs(String promise, Rowbench x, PairCall call) {
        for (int no : NO_KINDS) {
            noPlace(promise + ": no kind", x, () -> call.answer(no, 0, 1));
        }
        for (int no : NO_ROWS) {
            noPlace(promise + ": no row", x, () -> call.answer(0, no, 1));
            noPlace(promise + ": no other row", x, () -> call.answer(0, 1, no));
        }
    }

    void finish(String name) {
        System.out.println(name + ": " + right + " answers are as due, " + wrong + " are not");
        if (wrong != 0) {
            System.exit(1);
        }
    }

    static Object outcome(Call call) {
        try {
            return call.answer();
        } catch (RuntimeException e) {
            return "throws." + e.getClass().getSimpleName();
        }
    }

    /** A row's values, as a text. */
    static String row(Rowbench x, int kind, int row) {
        StringBuilder told = new StringBuilder();
        int places = x.length(kind, row);
        for (int place = 0; place < places; place++) {
            told.append(place == 0 ? "" : " ").append(x.at(kind, row, place));
        }
        return told.toString();
    }

    /** The same form, of values that are due. */
    static String values(int... values) {
        StringBuilder told = new StringBuilder();
        for (int place = 0; place < values.length; place++) {
            told.append(place == 0 ? "" : " ").append(values[place]);
        }
        return told.toString();
    }

    /** Makes a row one of these values. */
    static void lay(Rowbench x, int kind, int row, int... values) {
        x.resize(kind, row, values.length);
        for (int place = 0; place < values.length; place++) {
            x.put(kind, row, place, values[place]);
        }
    }

    static void layBoxes(Rowbench x, int row, int... values) {
        for (int place = 0; place < values.length; place++) {
            x.putBox(row, place, values[place]);
        }
    }

    /** first, first + step, and so on. */
    static int[] ramp(int places, int first, int step) {
        int[] values = new int[places];
        for (int place = 0; place < places; place++) {
            values[place] = first + step * place;
        }
        return values;
    }

    /** All that the bench tells, but for how often the library refused. */
    static String told(Rowbench x) {
        StringBuilder told = new StringBuilder();
        for (int kind = 0; kind < 5; kind++) {
            for (int row = 0; row < 3; row++) {
                told.append(row(x, kind, row)).append(x.isOne(kind, row, (row + 1) % 3) ? " one;" : ";");
            }
        }
        return told.append(x.listText(0)).append(x.listText(1)).append(x.house(1)).toString();
    }
}
