/** Promise 6. */
public final class NextTest {
    public static void main(String[] args) {
        EdgeFinder x = Checks.row(0, "| Other x Extend x Extend | CR x LF | Other |");
        answers(x, false, 3, 3, 3, 5, 5, 6, -1);
        answers(x, true, -1, 0, 0, 0, 3, 3, 5);
        Checks.due("words, on", x.next(1, 0, false), 1);
        Checks.due("words, back", x.next(1, 6, true), 5);
        followsChanges();
        noneBehindTheLastOne();
        noneBeforeTheFirstOne();
        noneInAnEmptyRow();
        theOneAtIIsNotMeant();
        firstAndLastOfEachRange();
        wrongNumbers();
        Checks.end();
    }

    private static void answers(EdgeFinder x, boolean back, int... wants) {
        for (int i = 0; i < wants.length; i++) {
            Checks.due("next(0, " + i + ", " + back + ")", x.next(0, i, back), wants[i]);
        }
    }

    private static void followsChanges() {
        EdgeFinder x = Checks.row(1, "| ALetter x ALetter x ALetter |");
        Checks.due("to the end", x.next(1, 0, false), 3);
        x.set(1, 0, 0, false);
        Checks.due("after set", x.next(1, 0, false), 1);
        Checks.due("after set, back", x.next(1, 3, true), 2);
        x.cut(2);
        Checks.due("after cut", x.next(1, 1, false), 2);
        Checks.due("behind the end", x.next(1, 2, false), -1);
        x.add(0, 4, false);
        Checks.due("after add", x.next(1, 1, false), 3);
    }

    private static void noneBehindTheLastOne() {
        EdgeFinder x = Checks.row(0, "| Other x Extend |");
        for (int kind = 0; kind <= 1; kind++) {
            Checks.due("at the last", x.next(kind, 2, false), -1);
            Checks.due("before the last", x.next(kind, 1, false), 2);
        }
    }

    private static void noneBeforeTheFirstOne() {
        EdgeFinder x = Checks.row(0, "| Other x Extend |");
        for (int kind = 0; kind <= 1; kind++) {
            Checks.due("at the first", x.next(kind, 0, true), -1);
            Checks.due("behind the first", x.next(kind, 1, true), 0);
        }
    }

    private static void noneInAnEmptyRow() {
        EdgeFinder x = new EdgeFinder();
        for (int kind = 0; kind <= 1; kind++) {
            Checks.due("on", x.next(kind, 0, false), -1);
            Checks.due("back", x.next(kind, 0, true), -1);
        }
    }

    private static void theOneAtIIsNotMeant() {
        EdgeFinder x = Checks.others(3);
        Checks.due("on from a boundary", x.next(0, 1, false), 2);
        Checks.due("back from a boundary", x.next(0, 2, true), 1);
    }

    private static void firstAndLastOfEachRange() {
        EdgeFinder x = Checks.others(2);
        for (boolean back : new boolean[] {false, true}) {
            for (int kind = 0; kind <= 1; kind++) {
                int asked = kind;
                Checks.dueRefused("next(-1)", x, () -> x.next(asked, -1, back));
                Checks.due("next(0)", x.next(kind, 0, back), back ? -1 : 1);
                Checks.due("next(2)", x.next(kind, 2, back), back ? 1 : -1);
                Checks.dueRefused("next(3)", x, () -> x.next(asked, 3, back));
            }
            Checks.dueRefused("kind -1", x, () -> x.next(-1, 0, back));
            Checks.dueRefused("kind 2", x, () -> x.next(2, 0, back));
        }
    }

    private static void wrongNumbers() {
        EdgeFinder x = Checks.row(0, "| Other x Extend | Other |");
        for (boolean back : new boolean[] {false, true}) {
            for (int far : Checks.FAR_OUT) {
                Checks.dueRefused("next(" + far + ", 0)", x, () -> x.next(far, 0, back));
                Checks.dueRefused("next(0, " + far + ")", x, () -> x.next(0, far, back));
            }
            Checks.dueRefused("next(2, 0)", x, () -> x.next(2, 0, back));
            Checks.dueRefused("next(MAX, 0)", x, () -> x.next(Integer.MAX_VALUE, 0, back));
            Checks.dueRefused("next(0, 4)", x, () -> x.next(0, 4, back));
            Checks.dueRefused("next(1, MAX)", x, () -> x.next(1, Integer.MAX_VALUE, back));
        }
    }
}
