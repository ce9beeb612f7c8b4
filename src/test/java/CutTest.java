/** Promise 4. */
public final class CutTest {
    public static void main(String[] args) {
        answersWhatWasThere();
        keepsTheFirst();
        whatIsCutIsGone();
        fromNoneToAll();
        emptyRow();
        wrongNumbers();
        Checks.end();
    }

    private static void answersWhatWasThere() {
        EdgeFinder x = Checks.row(0, "| Other | Other | Other | Other |");
        Checks.due("cut(4) of 4", x.cut(4), 4);
        Checks.due("cut(3) of 4", x.cut(3), 4);
        Checks.due("cut(1) of 3", x.cut(1), 3);
        Checks.due("cut(0) of 1", x.cut(0), 1);
        Checks.due("cut(0) of 0", x.cut(0), 0);
        Checks.due("add", x.add(0, 0, false), 1);
    }

    private static void keepsTheFirst() {
        EdgeFinder x = Checks.row(0, "| CR x LF | L x V x T |");
        x.cut(4);
        Checks.due("hash", x.hash(0), ((31 + 0) * 31 + 2) * 31 + 4);
        Checks.due("the end is a boundary", x.edge(0, 4), true);
        x.cut(1);
        Checks.due("hash of CR", x.hash(0), (31 + 0) * 31 + 1);
        x.cut(0);
        Checks.due("hash of nothing", x.hash(0), 1);
        Checks.due("edge of nothing", x.edge(0, 0), false);
    }

    private static void whatIsCutIsGone() {
        EdgeFinder x = Checks.row(1, "| ALetter x Single x ALetter |");
        Checks.due("before", x.edge(1, 1), false);
        x.cut(2);
        Checks.due("no letter ahead any more", x.edge(1, 1), true);
        x.add(0, 16, false);
        Checks.due("nor is a number one", x.edge(1, 1), true);
        EdgeFinder y = Checks.row(0, "| RI x RI | RI |");
        y.cut(0);
        y.add(6, 0, false);
        y.add(6, 0, false);
        Checks.due("indicators are counted anew", y.hash(0), 31 * 31 + 2);
    }

    private static void fromNoneToAll() {
        EdgeFinder x = Checks.row(0, "| Other+P x ZWJ x Other+P | CR x LF |");
        String before = Checks.state(x);
        Checks.due("cut to all", x.cut(5), 5);
        Checks.due("the row after a cut to all", Checks.state(x), before);
        Checks.dueRefused("cut to one more than all", x, () -> x.cut(6));
        Checks.dueRefused("cut to one less than none", x, () -> x.cut(-1));
        Checks.due("cut by one", x.cut(4), 5);
        Checks.dueRefused("cut to what was all", x, () -> x.cut(5));
        Checks.due("cut to none", x.cut(0), 4);
        Checks.due("none are left", x.cut(0), 0);
    }

    private static void emptyRow() {
        EdgeFinder x = new EdgeFinder();
        Checks.due("cut(0)", x.cut(0), 0);
        Checks.dueRefused("cut(1)", x, () -> x.cut(1));
        Checks.dueRefused("cut(-1)", x, () -> x.cut(-1));
        Checks.due("the first add", x.add(0, 0, false), 1);
    }

    private static void wrongNumbers() {
        EdgeFinder x = Checks.row(0, "| Other x Extend | Other |");
        for (int far : Checks.FAR_OUT) {
            Checks.dueRefused("cut(" + far + ")", x, () -> x.cut(far));
        }
        for (int far : new int[] {4, 5, 1000, 1001, Integer.MAX_VALUE}) {
            Checks.dueRefused("cut(" + far + ")", x, () -> x.cut(far));
        }
        x.cut(2);
        Checks.dueRefused("cut(3) behind cut(2)", x, () -> x.cut(3));
    }
}
