import java.math.BigInteger;

/** Promise 8. */
public final class HashTest {
    public static void main(String[] args) {
        Checks.due("empty", new EdgeFinder().hash(1), 1);
        EdgeFinder x = Checks.row(0, "| Other x Extend | Other |");
        Checks.due("0, 2, 3", x.hash(0), (31 * 31 + 2) * 31 + 3);
        Checks.due("0, 1, 2, 3", x.hash(1), ((31 * 31 + 1) * 31 + 2) * 31 + 3);
        followsChanges(x);
        wraps();
        wrapsAtTheSeventhBoundary();
        wrapsInAFullRow();
        onePlace();
        kindIs0Or1();
        wrongNumbers();
        Checks.end();
    }

    private static void followsChanges(EdgeFinder x) {
        x.set(2, 4, 4, false);
        Checks.due("0, 3", x.hash(0), 31 * 31 + 3);
        Checks.due("words 0, 1, 3", x.hash(1), (31 * 31 + 1) * 31 + 3);
        x.add(0, 0, false);
        Checks.due("0, 3, 4", x.hash(0), (31 * 31 + 3) * 31 + 4);
        x.cut(1);
        Checks.due("0, 1", x.hash(0), 31 * 31 + 1);
    }

    /** From the seventh boundary on the number is too long for 32 bits. */
    private static void wraps() {
        EdgeFinder x = new EdgeFinder();
        long h = 31;
        for (int k = 1; k <= 60; k++) {
            x.add(0, 0, false);
            h = (31 * h + k) & 0xffffffffL;
            Checks.due("hash of " + k, x.hash(0), (int) h);
            Checks.due("hash of " + k + " words", x.hash(1), (int) h);
        }
    }

    /** Six boundaries never wrap, seven do: once to a number above zero, then to one below. */
    private static void wrapsAtTheSeventhBoundary() {
        Checks.due("six boundaries", Checks.others(5).hash(0), 888489796);
        Checks.due("seven, 27543183682 less six times 2 to the 32nd", Checks.others(6).hash(0), 1773379906);
        Checks.due("eight", Checks.others(7).hash(0), -859797755);
    }

    private static void wrapsInAFullRow() {
        EdgeFinder x = Checks.others(1000);
        BigInteger h = BigInteger.ONE;
        for (int at = 0; at <= 1000; at++) {
            h = h.multiply(BigInteger.valueOf(31)).add(BigInteger.valueOf(at));
        }
        Checks.due("graphemes of a full row", x.hash(0), h.intValue());
        Checks.due("words of a full row", x.hash(1), h.intValue());
    }

    private static void onePlace() {
        EdgeFinder x = Checks.others(1);
        Checks.due("graphemes", x.hash(0), 31 * 31 + 1);
        Checks.due("words", x.hash(1), 31 * 31 + 1);
    }

    private static void kindIs0Or1() {
        EdgeFinder x = Checks.row(0, "| Other x Extend |");
        Checks.dueRefused("kind -1", x, () -> x.hash(-1));
        Checks.due("kind 0", x.hash(0), 31 * 31 + 2);
        Checks.due("kind 1", x.hash(1), (31 * 31 + 1) * 31 + 2);
        Checks.dueRefused("kind 2", x, () -> x.hash(2));
    }

    private static void wrongNumbers() {
        EdgeFinder x = Checks.row(0, "| Other x Extend | Other |");
        for (int far : Checks.FAR_OUT) {
            Checks.dueRefused("hash(" + far + ")", x, () -> x.hash(far));
        }
        for (int far : new int[] {2, 3, 1000, Integer.MAX_VALUE}) {
            Checks.dueRefused("hash(" + far + ")", x, () -> x.hash(far));
        }
    }
}
