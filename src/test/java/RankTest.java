/** Promise 7. */
public final class RankTest {
    public static void main(String[] args) {
        EdgeFinder x = Checks.row(1, "| ALetter x Single x ALetter | WSegSpace x WSegSpace | Other |");
        answers(x, 1, 1, 1, 1, 2, 2, 3, 4);
        answers(x, 0, 1, 2, 3, 4, 5, 6, 7);
        followsChanges(x);
        thatAt0Too();
        noneInAnEmptyRow();
        firstAndLastOfEachRange();
        wrongNumbers();
        Checks.end();
    }

    private static void answers(EdgeFinder x, int kind, int... wants) {
        for (int i = 0; i < wants.length; i++) {
            Checks.due("rank(" + kind + ", " + i + ")", x.rank(kind, i), wants[i]);
        }
    }

    private static void followsChanges(EdgeFinder x) {
        x.set(2, 4, 0, false);
        answers(x, 1, 1, 2, 3, 4, 4, 5, 6);
        answers(x, 0, 1, 2, 2, 3, 4, 5, 6);
        x.cut(2);
        answers(x, 1, 1, 2, 3);
        x.cut(0);
        answers(x, 1, 0);
        x.add(4, 4, false);
        answers(x, 0, 1, 2);
    }

    private static void thatAt0Too() {
        EdgeFinder x = Checks.row(0, "| Extend x Extend x Extend |");
        answers(x, 0, 1, 1, 1, 2);
        answers(x, 1, 1, 2, 3, 4);
        EdgeFinder one = Checks.row(1, "| Extend |");
        answers(one, 0, 1, 2);
        answers(one, 1, 1, 2);
    }

    private static void noneInAnEmptyRow() {
        EdgeFinder x = new EdgeFinder();
        answers(x, 0, 0);
        answers(x, 1, 0);
    }

    private static void firstAndLastOfEachRange() {
        EdgeFinder x = Checks.others(2);
        for (int kind = 0; kind <= 1; kind++) {
            int asked = kind;
            Checks.dueRefused("rank(-1)", x, () -> x.rank(asked, -1));
            Checks.due("rank(0)", x.rank(kind, 0), 1);
            Checks.due("rank(2)", x.rank(kind, 2), 3);
            Checks.dueRefused("rank(3)", x, () -> x.rank(asked, 3));
        }
        Checks.dueRefused("kind -1", x, () -> x.rank(-1, 0));
        Checks.dueRefused("kind 2", x, () -> x.rank(2, 0));
    }

    private static void wrongNumbers() {
        EdgeFinder x = Checks.row(0, "| Other x Extend | Other |");
        for (int far : Checks.FAR_OUT) {
            Checks.dueRefused("rank(" + far + ", 0)", x, () -> x.rank(far, 0));
            Checks.dueRefused("rank(1, " + far + ")", x, () -> x.rank(1, far));
        }
        Checks.dueRefused("rank(2, 0)", x, () -> x.rank(2, 0));
        Checks.dueRefused("rank(MAX, 0)", x, () -> x.rank(Integer.MAX_VALUE, 0));
        Checks.dueRefused("rank(0, 4)", x, () -> x.rank(0, 4));
        Checks.dueRefused("rank(0, MAX)", x, () -> x.rank(0, Integer.MAX_VALUE));
    }
}
