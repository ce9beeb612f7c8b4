/**
 * Boundaries of graphemes and words in rows of classes, as UAX 29 has them, found in one pass.
 */
public final class EdgeFinder {
    private static final int MOST_PLACES = 1000;
    private static final int LAST_GRAPHEME_CLASS = 13;
    private static final int LAST_WORD_CLASS = 18;
    private static final int GRAPHEMES = 0;
    private static final int WORDS = 1;
    private static final int NONE = -1;

    private final Row row;
    private final Edges graphemeEdges;
    private final Edges wordEdges;

    public EdgeFinder() {
        row = new Row();
        graphemeEdges = new Edges(new GraphemeRules());
        wordEdges = new Edges(new WordRules());
    }

    public int add(int g, int w, boolean picture)
            throws IllegalArgumentException, IndexOutOfBoundsException {
        requireUpTo(g, LAST_GRAPHEME_CLASS);
        requireUpTo(w, LAST_WORD_CLASS);
        if (row.size >= MOST_PLACES) {
            throw new IndexOutOfBoundsException("the row is full");
        }
        row.size++;
        row.write(row.size - 1, g, w, picture);
        forgetEdges();
        return row.size;
    }

    public void set(int i, int g, int w, boolean picture) throws IllegalArgumentException {
        requireUpTo(i, row.size - 1);
        requireUpTo(g, LAST_GRAPHEME_CLASS);
        requireUpTo(w, LAST_WORD_CLASS);
        row.write(i, g, w, picture);
        forgetEdges();
    }

    public int cut(int n) throws IllegalArgumentException {
        requireUpTo(n, row.size);
        int sizeBefore = row.size;
        row.size = n;
        forgetEdges();
        return sizeBefore;
    }

    public boolean edge(int kind, int i) throws IllegalArgumentException {
        requireUpTo(kind, WORDS);
        requireUpTo(i, row.size);
        return edgesOf(kind).marks[i];
    }

    public int next(int kind, int i, boolean back) throws IllegalArgumentException {
        requireUpTo(kind, WORDS);
        requireUpTo(i, row.size);
        Edges edges = edgesOf(kind);
        return back ? edges.lastBefore(i) : edges.firstBehind(i, row.size);
    }

    public int rank(int kind, int i) throws IllegalArgumentException {
        requireUpTo(kind, WORDS);
        requireUpTo(i, row.size);
        return edgesOf(kind).countUpTo(i);
    }

    public int hash(int kind) throws IllegalArgumentException {
        requireUpTo(kind, WORDS);
        return edgesOf(kind).mixUpTo(row.size);
    }

    private static void requireUpTo(int number, int last) {
        if (number < 0 || number > last) {
            throw new IllegalArgumentException("a number is out of range");
        }
    }

    /** Later places decide about earlier boundaries too (a letter behind an apostrophe), so none is kept. */
    private void forgetEdges() {
        graphemeEdges.stale = true;
        wordEdges.stale = true;
    }

    private Edges edgesOf(int kind) {
        Edges edges = kind == GRAPHEMES ? graphemeEdges : wordEdges;
        if (edges.stale) {
            edges.find(row);
        }
        return edges;
    }

    /** The places. Only those before size count: what a cut leaves behind it is written over. */
    private static final class Row {
        final int[] graphemes = new int[MOST_PLACES];
        final int[] words = new int[MOST_PLACES];
        final boolean[] pictures = new boolean[MOST_PLACES];
        int size = 0;

        void write(int i, int g, int w, boolean picture) {
            graphemes[i] = g;
            words[i] = w;
            pictures[i] = picture;
        }
    }

    /** The boundaries of one kind, kept from one question to the next until the row changes. */
    private static final class Edges {
        final boolean[] marks = new boolean[MOST_PLACES + 1];
        boolean stale = true;
        private final Rules rules;

        Edges(Rules rules) {
            this.rules = rules;
        }

        void find(Row row) {
            rules.begin();
            for (int i = 0; i < row.size; i++) {
                marks[i] = i == 0 || rules.part(row, i);
                rules.pass(row, i);
            }
            marks[row.size] = row.size > 0;
            stale = false;
        }

        int firstBehind(int i, int size) {
            for (int at = i + 1; at <= size; at++) {
                if (marks[at]) {
                    return at;
                }
            }
            return NONE;
        }

        int lastBefore(int i) {
            for (int at = i - 1; at >= 0; at--) {
                if (marks[at]) {
                    return at;
                }
            }
            return NONE;
        }

        int countUpTo(int i) {
            int count = 0;
            for (int at = 0; at <= i; at++) {
                if (marks[at]) {
                    count++;
                }
            }
            return count;
        }

        int mixUpTo(int size) {
            int h = 1;
            for (int at = 0; at <= size; at++) {
                if (marks[at]) {
                    h = 31 * h + at;
                }
            }
            return h;
        }
    }

    /**
     * The rules of one kind, walking along the row: they remember what they need of the places passed,
     * so that no rule has to look back.
     */
    private abstract static class Rules {
        abstract void begin();

        /** Whether a boundary is before place i, all places before it having been passed, one at least. */
        abstract boolean part(Row row, int i);

        abstract void pass(Row row, int i);
    }

    private static final class GraphemeRules extends Rules {
        private static final int CR = 1;
        private static final int LF = 2;
        private static final int CONTROL = 3;
        private static final int EXTEND = 4;
        private static final int ZWJ = 5;
        private static final int REGIONAL_INDICATOR = 6;
        private static final int PREPEND = 7;
        private static final int SPACING_MARK = 8;
        private static final int L = 9;
        private static final int V = 10;
        private static final int T = 11;
        private static final int LV = 12;
        private static final int LVT = 13;

        private int before = NONE;
        private boolean oddIndicators = false;
        // Two flags, not one state: a place that is both ZWJ and a picture ends the one and begins the other.
        private boolean afterPicture = false;
        private boolean afterPictureAndJoiner = false;

        void begin() {
            before = NONE;
            oddIndicators = false;
            afterPicture = false;
            afterPictureAndJoiner = false;
        }

        boolean part(Row row, int i) {
            int here = row.graphemes[i];
            if (before == CR && here == LF) {
                return false;
            }
            if (isControl(before) || isControl(here)) {
                return true;
            }
            return !(isSyllable(here)
                    || here == EXTEND || here == ZWJ || here == SPACING_MARK
                    || before == PREPEND
                    || (afterPictureAndJoiner && row.pictures[i])
                    || (oddIndicators && here == REGIONAL_INDICATOR));
        }

        void pass(Row row, int i) {
            int here = row.graphemes[i];
            afterPictureAndJoiner = afterPicture && here == ZWJ;
            afterPicture = row.pictures[i] || (afterPicture && here == EXTEND);
            oddIndicators = here == REGIONAL_INDICATOR && !oddIndicators;
            before = here;
        }

        private static boolean isControl(int g) {
            return g == CR || g == LF || g == CONTROL;
        }

        private boolean isSyllable(int here) {
            switch (before) {
                case L:
                    return here == L || here == V || here == LV || here == LVT;
                case LV:
                case V:
                    return here == V || here == T;
                case LVT:
                case T:
                    return here == T;
                default:
                    return false;
            }
        }
    }

    private static final class WordRules extends Rules {
        private static final int CR = 1;
        private static final int LF = 2;
        private static final int NEWLINE = 3;
        private static final int EXTEND = 4;
        private static final int ZWJ = 5;
        private static final int REGIONAL_INDICATOR = 6;
        private static final int FORMAT = 7;
        private static final int KATAKANA = 8;
        private static final int HEBREW_LETTER = 9;
        private static final int A_LETTER = 10;
        private static final int MID_LETTER = 11;
        private static final int MID_NUM = 12;
        private static final int MID_NUM_LET = 13;
        private static final int SINGLE_QUOTE = 14;
        private static final int DOUBLE_QUOTE = 15;
        private static final int NUMERIC = 16;
        private static final int EXTEND_NUM_LET = 17;
        private static final int W_SEG_SPACE = 18;

        private int before = NONE;
        // The last two places that count where Extend, Format and ZWJ count as not there.
        private int last = NONE;
        private int lastButOne = NONE;
        private boolean oddIndicators = false;

        void begin() {
            before = NONE;
            last = NONE;
            lastButOne = NONE;
            oddIndicators = false;
        }

        boolean part(Row row, int i) {
            int here = row.words[i];
            if (before == CR && here == LF) {
                return false;
            }
            if (isLineEnd(before) || isLineEnd(here)) {
                return true;
            }
            if ((before == ZWJ && row.pictures[i])
                    || (before == W_SEG_SPACE && here == W_SEG_SPACE)
                    || isAttached(here)) {
                return false;
            }
            int ahead = classAhead(row, i);
            return !(joinsLetters(here, ahead)
                    || joinsHebrew(here, ahead)
                    || joinsNumbers(here, ahead)
                    || joinsRuns(here)
                    || (oddIndicators && here == REGIONAL_INDICATOR));
        }

        void pass(Row row, int i) {
            int here = row.words[i];
            boolean counts = !isAttached(here) || before == NONE || isLineEnd(before);
            if (counts) {
                lastButOne = last;
                last = here;
                oddIndicators = here == REGIONAL_INDICATOR && !oddIndicators;
            }
            before = here;
        }

        /** The class of the next place that counts behind place i, itself one that counts and no line end. */
        private static int classAhead(Row row, int i) {
            for (int at = i + 1; at < row.size; at++) {
                if (!isAttached(row.words[at])) {
                    return row.words[at];
                }
            }
            return NONE;
        }

        private boolean joinsLetters(int here, int ahead) {
            if (isLetter(last)) {
                return isLetter(here) || (isMidLetter(here) && isLetter(ahead));
            }
            return isLetter(lastButOne) && isMidLetter(last) && isLetter(here);
        }

        private boolean joinsHebrew(int here, int ahead) {
            if (last == HEBREW_LETTER) {
                return here == SINGLE_QUOTE || (here == DOUBLE_QUOTE && ahead == HEBREW_LETTER);
            }
            return lastButOne == HEBREW_LETTER && last == DOUBLE_QUOTE && here == HEBREW_LETTER;
        }

        private boolean joinsNumbers(int here, int ahead) {
            if (last == NUMERIC) {
                return here == NUMERIC || isLetter(here) || (isMidNumber(here) && ahead == NUMERIC);
            }
            if (isLetter(last)) {
                return here == NUMERIC;
            }
            return lastButOne == NUMERIC && isMidNumber(last) && here == NUMERIC;
        }

        private boolean joinsRuns(int here) {
            if (here == EXTEND_NUM_LET) {
                return isRunPart(last) || last == EXTEND_NUM_LET;
            }
            if (last == EXTEND_NUM_LET) {
                return isRunPart(here);
            }
            return last == KATAKANA && here == KATAKANA;
        }

        private static boolean isLineEnd(int w) {
            return w == CR || w == LF || w == NEWLINE;
        }

        private static boolean isAttached(int w) {
            return w == EXTEND || w == FORMAT || w == ZWJ;
        }

        private static boolean isLetter(int w) {
            return w == A_LETTER || w == HEBREW_LETTER;
        }

        private static boolean isMidLetter(int w) {
            return w == MID_LETTER || isMidOfBoth(w);
        }

        private static boolean isMidNumber(int w) {
            return w == MID_NUM || isMidOfBoth(w);
        }

        private static boolean isMidOfBoth(int w) {
            return w == MID_NUM_LET || w == SINGLE_QUOTE;
        }

        private static boolean isRunPart(int w) {
            return isLetter(w) || w == NUMERIC || w == KATAKANA;
        }
    }
}
