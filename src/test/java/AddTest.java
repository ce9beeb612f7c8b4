/** Promise 2. */
public final class AddTest {
    public static void main(String[] args) {
        everyClassIsTaken();
        firstAndLastOfEachRange();
        addAfterCut();
        addedPlacesCount();
        lastBoundaryMoves();
        wrongNumbers();
        rowIsBounded();
        Checks.end();
    }

    private static void everyClassIsTaken() {
        EdgeFinder x = new EdgeFinder();
        int count = 0;
        for (int g = 0; g <= 13; g++) {
            for (int w = 0; w <= 18; w++) {
                count++;
                Checks.due("add(" + g + ", " + w + ")", x.add(g, w, count % 3 == 0), count);
            }
        }
    }

    private static void firstAndLastOfEachRange() {
        EdgeFinder x = new EdgeFinder();
        Checks.dueRefused("add(-1, 0)", x, () -> x.add(-1, 0, false));
        Checks.due("add(0, 0)", x.add(0, 0, false), 1);
        Checks.due("add(13, 0)", x.add(13, 0, false), 2);
        Checks.dueRefused("add(14, 0)", x, () -> x.add(14, 0, false));
        Checks.dueRefused("add(0, -1)", x, () -> x.add(0, -1, true));
        Checks.due("add(0, 18)", x.add(0, 18, true), 3);
        Checks.dueRefused("add(0, 19)", x, () -> x.add(0, 19, true));
        // The ranges are two: what is good for words is too large for graphemes.
        Checks.dueRefused("add(18, 13)", x, () -> x.add(18, 13, true));
        Checks.due("add(13, 18)", x.add(13, 18, true), 4);
    }

    /** Nothing of a place that was cut is left in the one that comes in its stead. */
    private static void addAfterCut() {
        EdgeFinder x = Checks.row(0, "| Other+P x ZWJ x Other+P |");
        x.cut(2);
        Checks.due("add", x.add(0, 0, false), 3);
        Checks.due("the picture is gone", x.edge(0, 2), true);
        x.cut(0);
        Checks.due("add to none", x.add(0, 0, false), 1);
        x.add(5, 5, false);
        x.add(0, 0, true);
        Checks.due("the first picture is gone", x.edge(0, 2), true);
    }

    private static void addedPlacesCount() {
        EdgeFinder x = new EdgeFinder();
        x.add(1, 10, false);
        x.add(2, 0, false);
        x.add(0, 10, false);
        Checks.due("CR x LF", x.edge(0, 1), false);
        Checks.due("LF | Other", x.edge(0, 2), true);
        Checks.due("ALetter | Other", x.edge(1, 1), true);
        x.add(0, 10, false);
        Checks.due("Other | Other", x.edge(0, 3), true);
        Checks.due("ALetter x ALetter", x.edge(1, 3), false);
    }

    private static void lastBoundaryMoves() {
        EdgeFinder x = new EdgeFinder();
        x.add(0, 10, false);
        x.add(0, 11, false);
        Checks.due("ALetter | MidLetter", x.edge(1, 1), true);
        Checks.due("end", x.edge(1, 2), true);
        x.add(4, 10, false);
        Checks.due("ALetter x MidLetter ALetter", x.edge(1, 1), false);
        Checks.due("ALetter MidLetter x ALetter", x.edge(1, 2), false);
        Checks.due("new end", x.edge(1, 3), true);
        Checks.due("Other x Extend", x.edge(0, 2), false);
    }

    private static void wrongNumbers() {
        EdgeFinder x = new EdgeFinder();
        x.add(7, 10, true);
        x.add(5, 13, false);
        for (int far : Checks.FAR_OUT) {
            Checks.dueRefused("add(" + far + ", 0)", x, () -> x.add(far, 0, false));
            Checks.dueRefused("add(0, " + far + ")", x, () -> x.add(0, far, false));
        }
        for (int over : new int[] {1, 2, 100, Integer.MAX_VALUE - 18}) {
            Checks.dueRefused("add(13 + " + over + ", 0)", x, () -> x.add(13 + over, 0, false));
            Checks.dueRefused("add(0, 18 + " + over + ")", x, () -> x.add(0, 18 + over, false));
        }
        Checks.due("the next good add", x.add(13, 18, true), 3);
    }

    /** More calls than the document promises anything for; but the row's bound has to hold all the same. */
    private static void rowIsBounded() {
        EdgeFinder x = new EdgeFinder();
        for (int k = 1; k <= 1000; k++) {
            Checks.due("add", x.add(0, 10, false), k);
        }
        Checks.dueThrow("add to a full row", IndexOutOfBoundsException.class, () -> x.add(0, 0, false));
        Checks.dueThrow("a wrong g first", IllegalArgumentException.class, () -> x.add(14, 0, false));
        Checks.dueThrow("a wrong w first", IllegalArgumentException.class, () -> x.add(0, 19, false));
        Checks.due("rank", x.rank(0, 1000), 1001);
        Checks.due("rank of words", x.rank(1, 1000), 2);
        Checks.due("next", x.next(1, 0, false), 1000);
        Checks.due("cut", x.cut(999), 1000);
        Checks.due("add behind the cut", x.add(0, 0, false), 1000);
        Checks.due("edge", x.edge(1, 999), true);
    }
}
