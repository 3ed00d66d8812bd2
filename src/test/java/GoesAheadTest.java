import java.util.ArrayList;
import java.util.Arrays;
import java.util.List;

/**
 * "If several exceptions apply, the one that is named first is thrown", "exceptions go ahead of
 * [REFUSED]", "A method that throws an exception changes nothing" (Description).
 *
 * Each method that throws is called with each input that it does not take, alone and together with
 * each of the others, and each time the first of AHEAD that applies is due. The inputs are the last
 * that are allowed, the first that are not, and the farthest.
 */
public final class GoesAheadTest {
    private static final String PLACE = "throws.IndexOutOfBoundsException";
    private static final String VALUE = "throws.IllegalArgumentException";
    private static final String STATE = "throws.IllegalStateException";
    private static final String REFUSED = "REFUSED";
    private static final String FALSE = "false";
    private static final String FINE = "fine";
    private static final String[] AHEAD = {PLACE, VALUE, STATE, REFUSED, FALSE, FINE};

    private static final int LEAST = Integer.MIN_VALUE;
    private static final int MOST = Integer.MAX_VALUE;

    private static final Check check = new Check();

    /** One argument, or more that belong together, and what is due if there is nothing else. */
    private record Input(String due, int... values) {
    }

    private interface Face {
        Object answer(Rowbench x, int[] a);
    }

    public static void main(String[] args) {
        for (int kind = 0; kind < 5; kind++) {
            changedRows(kind);
            askedRows(kind);
            searches(kind);
        }
        ints();
        boxes();
        cross("35 house", 0, (x, a) -> x.house(a[0]), house());
        check.finish("GoesAheadTest");
    }

    // ---- the methods

    private static void changedRows(int kind) {
        cross("2 resize", kind, (x, a) -> x.resize(a[0], a[1], a[2]), kinds(kind), rows(), lengths());
        cross("3 range", kind, (x, a) -> x.range(a[0], a[1], a[2], a[3], a[4]), kinds(kind), rows(), rows(), ranges());
        cross("4 copy", kind, (x, a) -> x.copy(a[0], a[1], a[2]), kinds(kind), rows(), rows());
        cross("5 share", kind, (x, a) -> x.share(a[0], a[1], a[2]), kinds(kind), rows(), rows());
        cross("6 put", kind, (x, a) -> x.put(a[0], a[1], a[2], a[3]), kinds(kind), rows(), places(REFUSED),
                values(kind));
        cross("7 fill", kind, (x, a) -> x.fill(a[0], a[1], a[2]), kinds(kind), rows(), values(kind));
        cross("8 fillPart", kind, (x, a) -> x.fillPart(a[0], a[1], a[2], a[3], a[4]), kinds(kind), rows(),
                parts(), values(kind));
        cross("10 sort", kind, (x, a) -> x.sort(a[0], a[1]), kinds(kind), rows());
        cross("11 sortPart", kind, (x, a) -> x.sortPart(a[0], a[1], a[2], a[3]), kinds(kind), rows(), parts());
    }

    private static void askedRows(int kind) {
        cross("12 length", kind, (x, a) -> x.length(a[0], a[1]), kinds(kind), rows());
        cross("13 at", kind, (x, a) -> x.at(a[0], a[1], a[2]), kinds(kind), rows(), places(PLACE));
        cross("16 isEqual", kind, (x, a) -> x.isEqual(a[0], a[1], a[2]), kinds(kind), rows(), rows());
        cross("17 isOne", kind, (x, a) -> x.isOne(a[0], a[1], a[2]), kinds(kind), rows(), rows());
        cross("18 order", kind, (x, a) -> x.order(a[0], a[1], a[2]), kinds(kind), rows(), rows());
        cross("19 mismatch", kind, (x, a) -> x.mismatch(a[0], a[1], a[2]), kinds(kind), rows(), rows());
        cross("20 isEqualFrom", kind, (x, a) -> x.isEqualFrom(a[0], a[1], a[2], a[3], a[4]), kinds(kind), rows(),
                froms(), rows(), froms());
    }

    /** Row 1 of the bench is 2 9 1 5: all of it is not SORTED, nor is its part from 1 to 3. */
    private static void searches(int kind) {
        Input[] sortedOrNot = rows();
        Input[] parts = parts();
        cross("14 search", kind, (x, a) -> x.search(a[0], a[1], a[2]), kinds(kind), with(sortedOrNot, input(STATE, 1)),
                values(kind));
        cross("15 searchPart", kind, (x, a) -> x.searchPart(a[0], a[1], a[2], a[3], a[4]), kinds(kind), sortedOrNot,
                parts, values(kind));
        cross("15 searchPart, not SORTED", kind, (x, a) -> x.searchPart(a[0], 1, a[1], a[2], a[3]), kinds(kind),
                with(unsortedParts(), input(FINE, 0, 2), input(FINE, 2, 4), input(FINE, 2, 2)), values(kind));
    }

    private static void ints() {
        cross("9 ramp", 0, (x, a) -> x.ramp(a[0], a[1], a[2]), rows(), numbers(), numbers());
        cross("21 hash", 0, (x, a) -> x.hash(a[0]), rows());
        cross("22 text", 0, (x, a) -> x.text(a[0]), rows());
    }

    private static void boxes() {
        cross("23 putBox", 0, (x, a) -> x.putBox(a[0], a[1], a[2]), boxRows(), boxPlaces(REFUSED), numbers());
        cross("24 putList", 0, (x, a) -> x.putList(a[0], a[1], a[2]), boxRows(), boxPlaces(PLACE), numbers());
        cross("25 addList", 0, (x, a) -> x.addList(a[0], a[1]), boxRows(), addedNumbers());
        cross("26 sortBoxes", 0, (x, a) -> x.sortBoxes(a[0], a[1] == 1), boxRows(), choices());
        cross("27 boxAt", 0, (x, a) -> x.boxAt(a[0], a[1], a[2] == 1), boxRows(), boxPlaces(PLACE), choices());
        cross("28 sizeOf", 0, (x, a) -> x.sizeOf(a[0]), boxRows());
        cross("29 indexOf", 0, (x, a) -> x.indexOf(a[0], a[1], a[2] == 1), boxRows(), numbers(), choices());
        cross("30 contains", 0, (x, a) -> x.contains(a[0], a[1]), boxRows(), numbers());
        cross("32 listHash", 0, (x, a) -> x.listHash(a[0]), boxRows());
        cross("33 listText", 0, (x, a) -> x.listText(a[0]), boxRows());
    }

    // ---- their inputs; rows 0 and 2 of the bench are ONE and have four places

    private static Input input(String due, int... values) {
        return new Input(due, values);
    }

    private static Input[] all(String due, int... values) {
        Input[] inputs = new Input[values.length];
        for (int k = 0; k < values.length; k++) {
            inputs[k] = input(due, values[k]);
        }
        return inputs;
    }

    private static Input[] with(Input[] inputs, Input... more) {
        List<Input> all = new ArrayList<>(List.of(inputs));
        all.addAll(List.of(more));
        return all.toArray(new Input[0]);
    }

    private static Input[] kinds(int kind) {
        return with(all(PLACE, -1, 5, LEAST, MOST), input(FINE, kind));
    }

    private static Input[] rows() {
        return with(all(PLACE, -1, 3, LEAST, MOST), all(FINE, 0, 2));
    }

    private static Input[] lengths() {
        return with(with(all(VALUE, 25, MOST), all(REFUSED, -1, LEAST)), all(FINE, 0, 24));
    }

    private static Input[] ranges() {
        return new Input[] {
            input(FINE, 0, 0), input(FINE, 0, 24), input(FINE, 4, 4), input(FINE, 4, 28),
            input(REFUSED, -1, 4), input(REFUSED, 5, 5), input(REFUSED, 1, 0), input(REFUSED, -30, -30),
            input(REFUSED, 30, 30), input(REFUSED, 30, -30), input(REFUSED, -1, 23), input(REFUSED, 6, 30),
            input(VALUE, -31, -31), input(VALUE, 31, 31), input(VALUE, 30, 31), input(VALUE, -30, -31),
            input(VALUE, 31, 30), input(VALUE, -31, -30), input(VALUE, 0, 25), input(VALUE, -1, 24),
            input(VALUE, 5, 30), input(VALUE, LEAST, MOST), input(VALUE, MOST, LEAST), input(VALUE, LEAST, LEAST)
        };
    }

    private static Input[] places(String due) {
        return with(all(due, -1, 4, LEAST, MOST), all(FINE, 0, 3));
    }

    private static Input[] values(int kind) {
        int lowest = Check.LOWEST[kind];
        int highest = Check.HIGHEST[kind];
        Input[] fine = all(FINE, lowest, highest);
        return kind < 2 ? fine : with(fine, all(VALUE, lowest - 1, highest + 1, LEAST, MOST));
    }

    private static Input[] parts() {
        return new Input[] {
            input(FINE, 0, 0), input(FINE, 0, 4), input(FINE, 4, 4), input(REFUSED, -1, 0), input(REFUSED, 0, 5),
            input(REFUSED, 5, 5), input(REFUSED, 1, 0), input(REFUSED, LEAST, MOST), input(REFUSED, MOST, LEAST)
        };
    }

    private static Input[] unsortedParts() {
        return new Input[] {
            input(STATE, 0, 4), input(STATE, 1, 3), input(REFUSED, 0, 5), input(REFUSED, -1, 4), input(REFUSED, 4, 0)
        };
    }

    private static Input[] froms() {
        return with(with(all(VALUE, -31, 31, LEAST, MOST), all(FALSE, -30, -1, 5, 30)), input(FINE, 4));
    }

    private static Input[] numbers() {
        return all(FINE, 0, LEAST, MOST);
    }

    private static Input[] addedNumbers() {
        return all(REFUSED, 0, LEAST, MOST);
    }

    private static Input[] choices() {
        return all(FINE, 0, 1);
    }

    private static Input[] boxRows() {
        return with(all(PLACE, -1, 2, LEAST, MOST), all(FINE, 0, 1));
    }

    private static Input[] boxPlaces(String due) {
        return with(all(due, -1, 6, LEAST, MOST), all(FINE, 0, 5));
    }

    private static Input[] house() {
        return with(all(VALUE, -1, 4, LEAST, MOST), all(FINE, 0, 1, 2, 3));
    }

    // ---- each of them with each other

    private static Rowbench bench(int kind) {
        Rowbench x = new Rowbench();
        Check.lay(x, kind, 0, 1, 2, 3, 4);
        Check.lay(x, kind, 1, 2, 9, 1, 5);
        x.share(kind, 0, 2);
        Check.layBoxes(x, 0, 6, 5, 4, 3, 2, 1);
        x.knock();
        x.addList(0, 7);
        return x;
    }

    private static void cross(String name, int kind, Face face, Input[]... inputs) {
        int together = 1;
        for (Input[] each : inputs) {
            together *= each.length;
        }
        for (int number = 0; number < together; number++) {
            int rest = number;
            List<Input> chosen = new ArrayList<>();
            for (Input[] each : inputs) {
                chosen.add(each[rest % each.length]);
                rest /= each.length;
            }
            called(name, kind, face, chosen);
        }
    }

    private static void called(String name, int kind, Face face, List<Input> chosen) {
        int[] a = chosen.stream().flatMapToInt(input -> Arrays.stream(input.values())).toArray();
        String what = name + " " + Check.values(a) + " (kind " + kind + ")";
        Rowbench x = bench(kind);
        Check.Call call = () -> face.answer(x, a);
        switch (due(chosen)) {
            case FINE:
                int refusals = x.house(2);
                Object got = Check.outcome(call);
                boolean isAnswer = !got.toString().startsWith("throws") && !got.equals(Check.REFUSED);
                check.same(what + " answered " + got + ": is an answer", isAnswer, true);
                check.same(what + " is not refused", x.house(2), refusals);
                break;
            case REFUSED:
                check.refused(what, x, call);
                break;
            case FALSE:
                check.asks(what, x, false, call);
                break;
            default:
                check.asks(what, x, due(chosen), call);
        }
    }

    private static String due(List<Input> chosen) {
        for (String first : AHEAD) {
            for (Input input : chosen) {
                if (input.due().equals(first)) {
                    return first;
                }
            }
        }
        return FINE;
    }
}
