/** Promise 3. */
public final class SetTest {
    public static void main(String[] args) {
        allThreeAreSet();
        firstAndLastPlace();
        laterPlaceDecidesEarlierBoundary();
        sizeStays();
        firstAndLastOfEachRange();
        noPlaceInAnEmptyRow();
        placeComesAndGoes();
        wrongNumbers();
        Checks.end();
    }

    private static void allThreeAreSet() {
        EdgeFinder x = Checks.others(3);
        x.set(1, 4, 0, false);
        Checks.due("g set", x.edge(0, 1), false);
        Checks.due("w not", x.edge(1, 1), true);
        x.set(1, 0, 4, false);
        Checks.due("g back", x.edge(0, 1), true);
        Checks.due("w set", x.edge(1, 1), false);
        x.set(0, 0, 0, true);
        x.set(1, 5, 5, false);
        Checks.due("no second picture", x.edge(0, 2), true);
        Checks.due("no picture behind ZWJ", x.edge(1, 2), true);
        x.set(2, 0, 0, true);
        Checks.due("pictures joined", x.edge(0, 2), false);
        Checks.due("ZWJ x picture", x.edge(1, 2), false);
        x.set(0, 0, 0, false);
        Checks.due("first picture gone", x.edge(0, 2), true);
        Checks.due("words do not ask for it", x.edge(1, 2), false);
        x.set(2, 0, 0, false);
        Checks.due("second picture gone", x.edge(1, 2), true);
    }

    private static void firstAndLastPlace() {
        EdgeFinder x = Checks.others(4);
        x.set(0, 7, 10, false);
        x.set(3, 8, 10, false);
        Checks.due("Prepend x", x.edge(0, 1), false);
        Checks.due("x SpacingMark", x.edge(0, 3), false);
        Checks.due("between", x.edge(0, 2), true);
    }

    private static void laterPlaceDecidesEarlierBoundary() {
        EdgeFinder x = Checks.row(1, "| Numeric | MidNum x Extend | Other |");
        Checks.due("Numeric | MidNum Other", x.edge(1, 1), true);
        x.set(3, 0, 16, false);
        Checks.due("Numeric x MidNum Numeric", x.edge(1, 1), false);
        Checks.due("Numeric MidNum x Numeric", x.edge(1, 3), false);
    }

    private static void sizeStays() {
        EdgeFinder x = Checks.others(5);
        x.set(2, 13, 18, true);
        Checks.due("cut", x.cut(5), 5);
    }

    private static void firstAndLastOfEachRange() {
        EdgeFinder x = Checks.others(3);
        for (int i : new int[] {0, 2}) {
            x.set(i, 13, 18, true);
            x.set(i, 0, 18, false);
            x.set(i, 13, 0, false);
            x.set(i, 0, 0, false);
        }
        refused(x, -1, 0, 0);
        refused(x, 3, 0, 0);
        refused(x, 2, -1, 0);
        refused(x, 2, 14, 0);
        refused(x, 2, 0, -1);
        refused(x, 2, 0, 19);
    }

    private static void noPlaceInAnEmptyRow() {
        EdgeFinder x = new EdgeFinder();
        for (int i : new int[] {-1, 0, 1, 999}) {
            refused(x, i, 0, 0);
        }
    }

    private static void placeComesAndGoes() {
        EdgeFinder x = Checks.others(1);
        refused(x, 1, 0, 0);
        x.add(0, 0, false);
        x.set(1, 4, 4, false);
        Checks.due("the new place is set", x.edge(0, 1), false);
        x.cut(1);
        refused(x, 1, 0, 0);
        x.cut(0);
        refused(x, 0, 0, 0);
    }

    private static void wrongNumbers() {
        EdgeFinder x = Checks.row(0, "| L x V | Other |");
        for (int far : Checks.FAR_OUT) {
            refused(x, far, 0, 0);
            refused(x, 1, far, 0);
            refused(x, 1, 0, far);
        }
        refused(x, 3, 0, 0);
        refused(x, 4, 0, 0);
        refused(x, 999, 0, 0);
        refused(x, 1000, 0, 0);
        refused(x, Integer.MAX_VALUE, 0, 0);
        refused(x, 1, 14, 0);
        refused(x, 1, Integer.MAX_VALUE, 0);
        refused(x, 1, 0, 19);
        refused(x, 1, 0, Integer.MAX_VALUE);
        x.cut(2);
        refused(x, 2, 0, 0);
    }

    private static void refused(EdgeFinder x, int i, int g, int w) {
        Checks.dueRefused("set(" + i + ", " + g + ", " + w + ")", x,
            () -> Checks.set(x, i, g, w, true));
    }
}
