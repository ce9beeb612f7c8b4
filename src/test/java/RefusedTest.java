/**
 * "A call that throws changes nothing": each call that can be refused, on rows that have been asked before
 * and rows that have not, against a twin of the row that never had that call.
 */
public final class RefusedTest {
    private static final int SIZE = 5;
    // Classes that would show behind a place, were it not the one it was.
    private static final int[][] PROBES = {{2, 2}, {10, 10}, {11, 16}, {6, 6}, {0, 8}, {0, 17}, {0, 18}};

    /** A call of the face that is to be refused. */
    private interface Call {
        void on(EdgeFinder x);
    }

    public static void main(String[] args) {
        refusedAdd();
        refusedSet();
        refusedCut();
        refusedQuestions();
        refusedByAFullRow();
        Checks.end();
    }

    private static void refusedAdd() {
        for (int g : outside(14)) {
            refused("add(" + g + ", 4)", x -> x.add(g, 4, true));
        }
        for (int w : outside(19)) {
            refused("add(4, " + w + ")", x -> x.add(4, w, true));
        }
    }

    private static void refusedSet() {
        for (int i : outside(SIZE)) {
            refused("set(" + i + ", 0, 0)", x -> x.set(i, 0, 0, false));
        }
        for (int place = 0; place < SIZE; place++) {
            int i = place;
            for (int g : outside(14)) {
                refused("set(" + i + ", " + g + ", 4)", x -> x.set(i, g, 4, false));
                refused("set(" + i + ", " + g + ", 4), picture", x -> x.set(i, g, 4, true));
            }
            for (int w : outside(19)) {
                refused("set(" + i + ", 3, " + w + ")", x -> x.set(i, 3, w, false));
                refused("set(" + i + ", 3, " + w + "), picture", x -> x.set(i, 3, w, true));
            }
        }
    }

    private static void refusedCut() {
        for (int n : outside(SIZE + 1)) {
            refused("cut(" + n + ")", x -> x.cut(n));
        }
    }

    private static void refusedQuestions() {
        for (int kind : outside(2)) {
            refused("edge(" + kind + ", 0)", x -> x.edge(kind, 0));
            refused("next(" + kind + ", 0)", x -> x.next(kind, 0, false));
            refused("rank(" + kind + ", 0)", x -> x.rank(kind, 0));
            refused("hash(" + kind + ")", x -> x.hash(kind));
        }
        for (int i : outside(SIZE + 1)) {
            refused("edge(1, " + i + ")", x -> x.edge(1, i));
            refused("next(1, " + i + ")", x -> x.next(1, i, false));
            refused("next(0, " + i + "), back", x -> x.next(0, i, true));
            refused("rank(0, " + i + ")", x -> x.rank(0, i));
        }
    }

    private static void refusedByAFullRow() {
        EdgeFinder x = Checks.others(1000);
        EdgeFinder twin = Checks.others(1000);
        Checks.dueThrow("add", IndexOutOfBoundsException.class, () -> x.add(4, 4, true));
        for (int kind = 0; kind <= 1; kind++) {
            Checks.due("hash of the full row", x.hash(kind), twin.hash(kind));
        }
        Checks.due("cut of the full row", x.cut(997), twin.cut(997));
        Checks.due("the last places", reading(x, 997, 995), reading(twin, 997, 995));
    }

    /** The numbers just outside 0 .. count - 1, and the farthest. */
    private static int[] outside(int count) {
        return new int[] {Integer.MIN_VALUE, -1, count, Integer.MAX_VALUE};
    }

    private static EdgeFinder newRow() {
        EdgeFinder x = new EdgeFinder();
        x.add(6, 9, true);
        x.add(5, 14, false);
        x.add(0, 9, true);
        x.add(9, 16, false);
        x.add(1, 12, false);
        return x;
    }

    private static void refused(String what, Call call) {
        for (boolean asked : new boolean[] {false, true}) {
            EdgeFinder x = newRow();
            EdgeFinder twin = newRow();
            if (asked) {
                x.hash(0);
                x.hash(1);
            }
            Checks.dueThrow(what, IllegalArgumentException.class, () -> {
                call.on(x);
                return "something";
            });
            Checks.due("the row after " + what, reading(x, SIZE, 0), reading(twin, SIZE, 0));
        }
    }

    /** All that calls can tell of the row's places from the last one down to a place. */
    private static String reading(EdgeFinder x, int size, int down) {
        StringBuilder read = new StringBuilder();
        for (int n = size; n >= down; n--) {
            read.append(x.cut(n)).append(':').append(x.hash(0)).append(' ').append(x.hash(1));
            for (int[] probe : PROBES) {
                read.append(' ').append(x.add(probe[0], probe[1], true));
                read.append(' ').append(x.edge(0, n)).append(' ').append(x.edge(1, n));
                x.cut(n);
            }
            x.add(5, 5, false);
            x.add(0, 0, true);
            read.append(' ').append(x.hash(0)).append(' ').append(x.hash(1)).append('\n');
        }
        return read.toString();
    }
}
