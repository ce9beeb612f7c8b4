/** Promise 1. */
public final class NewObjectTest {
    public static void main(String[] args) {
        for (int kind = 0; kind <= 1; kind++) {
            emptyRow(kind);
        }
        Checks.due("cut(0) of a new object", new EdgeFinder().cut(0), 0);
        Checks.due("the first add", new EdgeFinder().add(0, 0, false), 1);
        objectsAreApart();
        emptyHasNoPlace();
        Checks.end();
    }

    private static void emptyRow(int kind) {
        EdgeFinder x = new EdgeFinder();
        Checks.due("edge", x.edge(kind, 0), false);
        Checks.due("next", x.next(kind, 0, false), -1);
        Checks.due("next back", x.next(kind, 0, true), -1);
        Checks.due("rank", x.rank(kind, 0), 0);
        Checks.due("hash", x.hash(kind), 1);
    }

    private static void objectsAreApart() {
        EdgeFinder full = new EdgeFinder();
        full.add(9, 10, true);
        EdgeFinder empty = new EdgeFinder();
        Checks.due("hash of the empty one", empty.hash(0), 1);
        Checks.due("cut of the empty one", empty.cut(0), 0);
        Checks.due("cut of the other", full.cut(0), 1);
    }

    private static void emptyHasNoPlace() {
        EdgeFinder x = new EdgeFinder();
        Checks.dueRefused("set(0)", x, () -> Checks.set(x, 0, 0, 0, false));
        Checks.dueRefused("cut(1)", x, () -> x.cut(1));
        Checks.dueRefused("edge(0, 1)", x, () -> x.edge(0, 1));
        Checks.dueRefused("next(0, 1)", x, () -> x.next(0, 1, true));
        Checks.dueRefused("rank(1, 1)", x, () -> x.rank(1, 1));
    }
}
