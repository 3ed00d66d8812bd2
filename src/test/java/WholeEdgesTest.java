import java.math.BigInteger;
import java.util.ArrayList;
import java.util.List;

/**
 * What wraps around, the least and the most that the bench tells of itself, and the 512 calls. The
 * sentence of the document that is tested stands over each test.
 */
public final class WholeEdgesTest {
    private static final int LEAST = Integer.MIN_VALUE;
    private static final int MOST = Integer.MAX_VALUE;
    private static final int CALLS = 512;

    private static final Check check = new Check();

    public static void main(String[] args) {
        hashWrapsAround();
        rampWrapsAround();
        whatOfHouse();
        leastAndMostPlaces();
        leastAndMostPairs();
        knocks();
        refusalsOfEachMethod();
        whatIsNotCounted();
        lastOfAllCalls();
        soundAtTheEdges();
        digestWrapsAround();
        objectsApart();
        check.finish("WholeEdgesTest");
    }

    // ---- wrap-arounds of INTS

    /** 1. Rows, HASH: "(32 bits, wrapping around)": the last that fits, and the first that wraps around. */
    private static void hashWrapsAround() {
        Rowbench x = new Rowbench();
        isHash(x, 1);
        isHash(x, MOST, MOST - 31);
        isHash(x, LEAST, MOST - 30);
        isHash(x, -2147483618, MOST);
        isHash(x, LEAST, LEAST, -961);
        isHash(x, LEAST + 31, LEAST);
        isHash(x, 887503681, 0, 0, 0, 0, 0, 0);
        isHash(x, 1742810335, 0, 0, 0, 0, 0, 0, 0);
        isHash(x, 0, -31);
        isHash(x, 0, 0, 0, 0, 0, 0, -887503681);
        for (int value : new int[] {LEAST, -1, 0, 1, MOST}) {
            BigInteger due = BigInteger.ONE;
            for (int place = 0; place < 24; place++) {
                due = due.multiply(BigInteger.valueOf(31)).add(BigInteger.valueOf(value));
            }
            isHash(x, due.intValue(), Check.ramp(24, value, 0));
        }
    }

    private static void isHash(Rowbench x, int due, int... values) {
        x.resize(0, 2, values.length);
        for (int place = 0; place < values.length; place++) {
            x.put(0, 2, place, values[place]);
        }
        check.same("21: of " + Check.values(values), x.hash(2), due);
    }

    /** 9: "start + step * k (32 bits, wrapping around)": the last that fits, and the first that wraps around. */
    private static void rampWrapsAround() {
        isRamp("9: fits", MOST - 1, 1, MOST - 1, MOST);
        isRamp("9: wraps around", MOST, 1, MOST, LEAST);
        isRamp("9: fits below", LEAST + 1, -1, LEAST + 1, LEAST);
        isRamp("9: wraps around below", LEAST, -1, LEAST, MOST);
        isRamp("9: twice the step fits", 0, 1073741823, 0, 1073741823, 2147483646);
        isRamp("9: twice the step wraps around", 0, 1073741824, 0, 1073741824, LEAST);
        isRamp("9: the least step", 5, LEAST, 5, LEAST + 5, 5, LEAST + 5);
        isRamp("9: the greatest step", 0, MOST, 0, MOST, -2, 2147483645);
        isRamp("9: no step", LEAST, 0, LEAST, LEAST, LEAST);
        isRamp("9: without VALUES", MOST, MOST);
        for (int start : new int[] {LEAST, -1, 0, MOST}) {
            for (int step : new int[] {LEAST, LEAST + 1, -1, 93368855, 1073741824, MOST}) {
                int[] due = new int[24];
                for (int place = 0; place < 24; place++) {
                    BigInteger more = BigInteger.valueOf(step).multiply(BigInteger.valueOf(place));
                    due[place] = BigInteger.valueOf(start).add(more).intValue();
                }
                isRamp("9: from " + start + " by " + step, start, step, due);
            }
        }
    }

    private static void isRamp(String what, int start, int step, int... due) {
        for (int row = 0; row < 3; row++) {
            int r = row;
            Rowbench x = new Rowbench();
            x.resize(0, row, due.length);
            check.answers(what, x, due.length, () -> x.ramp(r, start, step));
            check.same(what + ": tells", Check.row(x, 0, row), Check.values(due));
            check.same(what + ": no other row", x.house(0), due.length);
        }
    }

    // ---- house

    /** 35: "Throws IllegalArgumentException if what is not 0 to 3". */
    private static void whatOfHouse() {
        Rowbench x = new Rowbench();
        for (int what = 0; what <= 3; what++) {
            int w = what;
            check.asks("35: at first " + what, x, 0, () -> x.house(w));
        }
        for (int no : new int[] {-1, -2, 4, 5, LEAST, MOST}) {
            check.noValue("35: what " + no, x, () -> x.house(no));
        }
        check.same("35: none was refused", x.house(2), 0);
    }

    /** 35: "0 how many places all ROWS have (of all KINDS; ROWS that are ONE count each)". */
    private static void leastAndMostPlaces() {
        Rowbench x = new Rowbench();
        int due = 0;
        for (int kind = 0; kind < 5; kind++) {
            for (int row = 0; row < 3; row++) {
                x.resize(kind, row, 24);
                due += 24;
                check.same("35: places", x.house(0), due);
            }
        }
        check.same("35: the most", x.house(0), 360);
        for (int kind = 0; kind < 5; kind++) {
            x.share(kind, 0, 1);
            x.share(kind, 0, 2);
        }
        check.same("35: the most, all ONE", x.house(0), 360);
        x.resize(4, 2, 0);
        check.same("35: one without VALUES", x.house(0), 336);
    }

    /** 35: "3 how many pairs of ROWS of a KIND are ONE". */
    private static void leastAndMostPairs() {
        Rowbench x = new Rowbench();
        for (int kind = 0; kind < 5; kind++) {
            check.same("35: pairs", x.house(3), 3 * kind);
            x.share(kind, 2, 1);
            check.same("35: one pair more", x.house(3), 3 * kind + 1);
            x.share(kind, 1, 0);
            check.same("35: three pairs more", x.house(3), 3 * kind + 3);
        }
        x.copy(0, 0, 0);
        check.same("35: two pairs less", x.house(3), 13);
        x.share(0, 1, 1);
        check.same("35: with itself none", x.house(3), 13);
    }

    /** 34: "Returns how often one knocked, with this", from the first to the last that is promised. */
    private static void knocks() {
        Rowbench x = new Rowbench();
        for (int times = 1; times < CALLS; times++) {
            check.same("34: knock", x.knock(), times);
        }
        check.same("35: knocks", x.house(1), CALLS - 1);
        Rowbench y = new Rowbench();
        for (int times = 1; times < CALLS; times++) {
            y.knock();
        }
        check.same("34: the last call", y.knock(), CALLS);
    }

    /** 35: "2 how often the library refused": each method that can be refused, once and again. */
    private static void refusalsOfEachMethod() {
        Rowbench x = new Rowbench();
        x.resize(3, 1, 2);
        List<Check.Call> calls = List.of(
                () -> x.resize(3, 1, -1), () -> x.range(3, 1, 0, 3, 3), () -> x.put(3, 1, 2, 5),
                () -> x.fillPart(3, 1, 0, 3, 5), () -> x.sortPart(3, 1, -1, 2), () -> x.searchPart(3, 1, 2, 1, 5),
                () -> x.putBox(1, 6, 5), () -> x.addList(1, 5));
        int refusals = 0;
        for (int times = 0; times < 2; times++) {
            for (Check.Call call : calls) {
                check.same("35: before", x.house(2), refusals);
                check.refused("35: refused", x, call);
                refusals++;
                check.same("35: after", x.house(2), refusals);
            }
        }
    }

    /** 35: "(in methods that tell numbers)"; what is not found, not ONE, or not allowed is not refused. */
    private static void whatIsNotCounted() {
        Rowbench x = new Rowbench();
        x.resize(3, 1, 2);
        x.put(3, 1, 0, 9);
        check.asks("20: is told as false", x, false, () -> x.isEqualFrom(3, 1, 3, 1, 3));
        check.asks("29: NONE", x, -1, () -> x.indexOf(0, 7, false));
        check.asks("19: NONE", x, -1, () -> x.mismatch(3, 1, 1));
        check.asks("5: is ONE already", x, 1, () -> x.share(3, 1, 1));
        check.fallen("14: falls", x, () -> x.search(3, 1, 9));
        check.noPlace("13: no place", x, () -> x.at(3, 1, 2));
        check.noPlace("24: no place", x, () -> x.putList(0, 6, 1));
        check.noPlace("27: no place", x, () -> x.boxAt(0, 6, true));
        check.noValue("2: above 24", x, () -> x.resize(3, 1, 25));
        check.noValue("6: no VALUE", x, () -> x.put(3, 1, 2, 128));
        check.noValue("35: what", x, () -> x.house(4));
        check.same("35: none was refused", x.house(2), 0);
    }

    // ---- the 512 calls

    /** What it is: "An object is used for at most 512 calls": up to the last one each answers as the first. */
    private static void lastOfAllCalls() {
        Rowbench refused = new Rowbench();
        Rowbench moved = new Rowbench();
        Rowbench told = new Rowbench();
        moved.share(0, 0, 1);
        told.resize(0, 0, 24);
        told.ramp(0, LEAST, 1);
        long digest = told.digest();
        for (int call = 1; call < CALLS; call++) {
            refused.addList(1, call);
            if (call < CALLS - 1) {
                moveOneOfThree(moved, call);
            }
            if (call < CALLS - 2) {
                check.same("37: again", told.digest(), digest);
            }
        }
        check.same("35: the last call", refused.house(2), CALLS - 1);
        check.same("22: the last call", moved.text(1), "[1, 0, 0, 0, 0, 0]");
    }

    /** Rows join, leave, and become longer and shorter, so that each is stored anew each time. */
    private static void moveOneOfThree(Rowbench x, int call) {
        switch (call % 4) {
            case 1:
                x.resize(0, 0, call % 24 + 1);
                break;
            case 2:
                x.share(0, 0, 1);
                break;
            case 3:
                x.put(0, 1, 0, 1);
                break;
            default:
                x.range(0, 1, call % 3, 0, 5);
        }
    }

    // ---- isSound, digest

    /** 36: "all of this is so", of rows without VALUES, of 24 places, of one VALUE alone, and that fall. */
    private static void soundAtTheEdges() {
        Rowbench first = new Rowbench();
        check.asks("36: at first", first, true, () -> first.isSound());
        for (int places : new int[] {1, 2, 23, 24}) {
            for (int value = 0; value < 3; value++) {
                Rowbench x = filledBench(places, value);
                check.asks("36: " + places + " places", x, true, () -> x.isSound());
                for (int kind = 0; kind < 5; kind++) {
                    x.share(kind, 2, 0);
                    x.resize(kind, 1, 0);
                }
                check.asks("36: some are ONE, some without VALUES", x, true, () -> x.isSound());
            }
        }
    }

    /** All rows are filled: with the least, the greatest, or from the greatest to the least. */
    private static Rowbench filledBench(int places, int value) {
        Rowbench x = new Rowbench();
        for (int kind = 0; kind < 5; kind++) {
            for (int row = 0; row < 3; row++) {
                x.resize(kind, row, places);
                x.fill(kind, row, value == 0 ? Check.LOWEST[kind] : Check.HIGHEST[kind]);
                if (value == 2) {
                    x.put(kind, row, places - 1, Check.LOWEST[kind]);
                }
            }
        }
        Check.layBoxes(x, 1, MOST, LEAST, 0, -1, MOST, LEAST);
        return x;
    }

    /** 37: "A number d starts with 7709 [...] d * 31 + v, which wraps around as a 64-bit integer". */
    private static void digestWrapsAround() {
        isDigest("37: at first", new Rowbench(), new Rowbench());
        isDigest("37: some are ONE", oneBench(), oneBench());
        for (int places : new int[] {1, 2, 24}) {
            for (int value = 0; value < 3; value++) {
                isDigest("37: " + places + " places", filledBench(places, value), filledBench(places, value));
            }
        }
    }

    /** Of each kind another pair of rows is ONE, of the last two all, or none. */
    private static Rowbench oneBench() {
        Rowbench x = filledBench(3, 2);
        x.share(0, 0, 1);
        x.share(1, 0, 2);
        x.share(2, 1, 2);
        x.share(3, 0, 1);
        x.share(3, 1, 2);
        return x;
    }

    /** Two benches that are alike each tell a part of what a digest is made of: for one it is above 512 calls. */
    private static void isDigest(String what, Rowbench x, Rowbench alike) {
        BigInteger due = BigInteger.valueOf(7709);
        for (long v : toldNumbers(x, alike)) {
            due = due.multiply(BigInteger.valueOf(31)).add(BigInteger.valueOf(v));
        }
        check.same(what, alike.digest(), due.longValue());
        check.same(what + ", asked before", x.digest(), due.longValue());
    }

    private static List<Long> toldNumbers(Rowbench x, Rowbench alike) {
        List<Long> told = new ArrayList<>();
        for (int what = 0; what < 4; what++) {
            told.add((long) x.house(what));
        }
        for (int kind = 0; kind < 5; kind++) {
            for (int row = 0; row < 3; row++) {
                int places = alike.length(kind, row);
                told.add((long) places);
                for (int place = 0; place < places; place++) {
                    told.add((long) x.at(kind, row, place));
                }
            }
        }
        int[][] pairs = {{0, 1}, {0, 2}, {1, 2}};
        for (int kind = 0; kind < 5; kind++) {
            for (int[] pair : pairs) {
                told.add((long) alike.order(kind, pair[0], pair[1]));
                told.add((long) alike.mismatch(kind, pair[0], pair[1]));
                told.add(alike.isOne(kind, pair[0], pair[1]) ? 1L : 0L);
            }
        }
        for (int row = 0; row < 3; row++) {
            told.add((long) alike.hash(row));
            told.add((long) alike.text(row).length());
        }
        for (int row = 0; row < 2; row++) {
            for (int place = 0; place < 6; place++) {
                told.add((long) alike.boxAt(row, place, false));
            }
            told.add((long) alike.listHash(row));
            told.add((long) alike.listText(row).length());
        }
        told.add(alike.areListsEqual() ? 1L : 0L);
        told.add(alike.isSound() ? 1L : 0L);
        return told;
    }

    /** 1: "Creates a bench of rows without values": whatever stands in another one. */
    private static void objectsApart() {
        long atFirst = new Rowbench().digest();
        Rowbench x = filledBench(24, 2);
        x.share(0, 0, 1);
        x.knock();
        x.addList(0, 1);
        check.same("1: another one is new", new Rowbench().digest(), atFirst);
        check.same("1: this one is not", x.digest() == atFirst, false);
    }
}
