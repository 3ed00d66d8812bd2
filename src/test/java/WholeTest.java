/** Promises 34 to 37: the whole bench. */
public final class WholeTest {
    private static final Check check = new Check();

    public static void main(String[] args) {
        knock();
        house();
        isSound();
        digest();
        check.finish("WholeTest");
    }

    private static void knock() {
        Rowbench x = new Rowbench();
        for (int times = 1; times <= 5; times++) {
            check.same("34: how often", x.knock(), times);
            check.same("35: house 1", x.house(1), times);
        }
    }

    private static void house() {
        Rowbench x = new Rowbench();
        x.resize(0, 0, 24);
        x.resize(4, 2, 3);
        check.same("35: places of all kinds", x.house(0), 27);
        x.share(0, 0, 1);
        check.same("35: rows that are one count each", x.house(0), 51);
        check.same("35: one pair", x.house(3), 1);
        x.share(0, 1, 2);
        x.share(4, 0, 2);
        check.same("35: three pairs and one", x.house(3), 4);
        check.same("35: nothing was refused", x.house(2), 0);
        x.addList(0, 1);
        x.putBox(0, 6, 1);
        x.resize(0, 0, -1);
        check.same("35: three were refused", x.house(2), 3);
        x.isEqualFrom(0, 0, 30, 1, 0);
        check.same("35: no number was told", x.house(2), 3);
        for (int no : new int[] {-1, 4, Integer.MIN_VALUE, Integer.MAX_VALUE}) {
            check.noValue("35: what " + no, x, () -> x.house(no));
        }
    }

    private static void isSound() {
        Rowbench x = new Rowbench();
        check.same("36: at first", x.isSound(), true);
        Check.lay(x, 0, 0, 3, 1, 3, Integer.MIN_VALUE);
        x.share(0, 0, 1);
        Check.lay(x, 3, 0, 3, 1, -128);
        x.resize(1, 2, 24);
        Check.layBoxes(x, 1, 3, 1, 2, 9, 1000, 0);
        String before = Check.told(x);
        check.same("36: of rows", x.isSound(), true);
        check.same("36: changes nothing", Check.told(x), before);
    }

    private static void digest() {
        Rowbench first = new Rowbench();
        check.same("37: at first", first.digest(), dueDigest(first));
        Rowbench x = busy();
        check.same("37: of rows", x.digest(), dueDigest(x));
        x.addList(0, 0);
        check.same("37: tells refusals", x.digest(), dueDigest(x));
        Rowbench again = busy();
        String before = Check.told(again);
        long once = again.digest();
        check.same("37: again", again.digest(), once);
        check.same("37: changes nothing", Check.told(again), before);
        again.addList(0, 0);
        check.same("37: is another then", again.digest() == once, false);
    }

    private static Rowbench busy() {
        Rowbench x = new Rowbench();
        x.knock();
        for (int kind = 0; kind < 5; kind++) {
            Check.lay(x, kind, 0, 5, kind, 7);
            Check.lay(x, kind, 1, 5, 3);
        }
        x.share(2, 1, 2);
        Check.lay(x, 0, 2, Integer.MAX_VALUE, Integer.MIN_VALUE);
        Check.layBoxes(x, 0, -1, 2, 3, 4, 5, 6);
        return x;
    }

    /** The words of promise 37, told by the other methods. */
    private static long dueDigest(Rowbench x) {
        long d = 7709;
        for (int what = 0; what < 4; what++) {
            d = d * 31 + x.house(what);
        }
        for (int kind = 0; kind < 5; kind++) {
            for (int row = 0; row < 3; row++) {
                d = d * 31 + x.length(kind, row);
                for (int place = 0; place < x.length(kind, row); place++) {
                    d = d * 31 + x.at(kind, row, place);
                }
            }
        }
        int[][] pairs = {{0, 1}, {0, 2}, {1, 2}};
        for (int kind = 0; kind < 5; kind++) {
            for (int[] pair : pairs) {
                d = d * 31 + x.order(kind, pair[0], pair[1]);
                d = d * 31 + x.mismatch(kind, pair[0], pair[1]);
                d = d * 31 + (x.isOne(kind, pair[0], pair[1]) ? 1 : 0);
            }
        }
        for (int row = 0; row < 3; row++) {
            d = (d * 31 + x.hash(row)) * 31 + x.text(row).length();
        }
        for (int row = 0; row < 2; row++) {
            for (int place = 0; place < 6; place++) {
                d = d * 31 + x.boxAt(row, place, false);
            }
            d = (d * 31 + x.listHash(row)) * 31 + x.listText(row).length();
        }
        return (d * 31 + (x.areListsEqual() ? 1 : 0)) * 31 + (x.isSound() ? 1 : 0);
    }
}
