/** What the tests share: counting wrong answers, the calls' answers as texts, and rows from short notes. */
final class Checks {
    static final int GRAPHEMES = 0;
    static final int WORDS = 1;
    static final int[] FAR_OUT = {Integer.MIN_VALUE, Integer.MIN_VALUE + 1, -1000, -2, -1};

    static final String[] GRAPHEME_NAMES = {
        "Other", "CR", "LF", "Control", "Extend", "ZWJ", "RI", "Prepend", "SpacingMark",
        "L", "V", "T", "LV", "LVT"};
    static final String[] WORD_NAMES = {
        "Other", "CR", "LF", "Newline", "Extend", "ZWJ", "RI", "Format", "Katakana", "Hebrew", "ALetter",
        "MidLetter", "MidNum", "MidNumLet", "Single", "Double", "Numeric", "ExtendNumLet", "WSegSpace"};

    private static int wrong = 0;
    private static int asked = 0;

    private Checks() {
    }

    /** A call of the face, which answers or throws. */
    interface Call {
        Object answer();
    }

    static void due(String what, Object got, Object want) {
        asked++;
        if (!String.valueOf(got).equals(String.valueOf(want))) {
            wrong++;
            System.out.println(what + " answered " + got + ", due is " + want);
        }
    }

    /** The exact class counts: a subclass would not be what the document says. */
    static void dueThrow(String what, Class<? extends RuntimeException> want, Call call) {
        Object got;
        try {
            got = call.answer();
        } catch (RuntimeException e) {
            got = e.getClass().getName();
        }
        due(what, got, want.getName());
    }

    /** The call throws IllegalArgumentException and the row has afterwards what it had. */
    static void dueRefused(String what, EdgeFinder x, Call call) {
        String before = state(x);
        dueThrow(what, IllegalArgumentException.class, call);
        due("the row after " + what, state(x), before);
    }

    /** What can be told of the row by questions alone; cut to its own size changes nothing. */
    static String state(EdgeFinder x) {
        int size = sizeOf(x);
        return size + " places, hashes " + x.hash(GRAPHEMES) + " and " + x.hash(WORDS)
            + ", cut answers " + x.cut(size);
    }

    /**
     * No call tells the size without a change, but the last boundary is always behind the last place.
     * The loop goes upwards alone, so that it ends for a wrong program too.
     */
    static int sizeOf(EdgeFinder x) {
        int size = 0;
        for (int at = x.next(GRAPHEMES, 0, false); at > size; at = x.next(GRAPHEMES, at, false)) {
            size = at;
        }
        return size;
    }

    /** A call of set in the form of a call that answers. */
    static Object set(EdgeFinder x, int i, int g, int w, boolean picture) {
        x.set(i, g, w, picture);
        return "nothing";
    }

    static EdgeFinder others(int count) {
        EdgeFinder x = new EdgeFinder();
        for (int k = 0; k < count; k++) {
            x.add(0, 0, false);
        }
        return x;
    }

    /**
     * A row from a note such as "| CR x LF | Other+P |": names of classes of the kind, +P for a picture.
     * Each mark tells whether a boundary is there. The other kind's classes are all Other.
     */
    static EdgeFinder row(int kind, String note) {
        EdgeFinder x = new EdgeFinder();
        String[] parts = note.trim().split("\\s+");
        for (int k = 1; k < parts.length; k += 2) {
            boolean picture = parts[k].endsWith("+P");
            String name = picture ? parts[k].substring(0, parts[k].length() - 2) : parts[k];
            int number = classOf(kind, name);
            x.add(kind == GRAPHEMES ? number : 0, kind == WORDS ? number : 0, picture);
        }
        return x;
    }

    static int classOf(int kind, String name) {
        String[] names = kind == GRAPHEMES ? GRAPHEME_NAMES : WORD_NAMES;
        for (int k = 0; k < names.length; k++) {
            if (names[k].equals(name)) {
                return k;
            }
        }
        throw new AssertionError("no class " + name);
    }

    /**
     * Makes the note's row and holds every answer of edge against the note's marks; then once more behind a
     * cut that cuts nothing, since a row that has changed is not read with what was left of the first time.
     */
    static void dueMarks(int kind, String note) {
        EdgeFinder x = row(kind, note);
        String[] parts = note.trim().split("\\s+");
        due("kind " + kind, marks(kind, x, parts), String.join(" ", parts));
        x.cut(parts.length / 2);
        due("kind " + kind + ", asked again", marks(kind, x, parts), String.join(" ", parts));
    }

    private static String marks(int kind, EdgeFinder x, String[] parts) {
        StringBuilder got = new StringBuilder();
        for (int k = 0; k < parts.length; k++) {
            String mark = k % 2 == 1 ? parts[k] : x.edge(kind, k / 2) ? "|" : "x";
            got.append(k == 0 ? "" : " ").append(mark);
        }
        return got.toString();
    }

    static void end() {
        if (asked == 0) {
            System.out.println("nothing was asked");
        }
        System.exit(wrong == 0 && asked > 0 ? 0 : 1);
    }
}
