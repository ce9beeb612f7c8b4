import java.util.ArrayList;
import java.util.Arrays;
import java.util.List;
import java.util.Random;
import java.util.regex.Pattern;
import java.util.stream.IntStream;

/**
 * Promises 5 to 8 against a second reading of the rules: the document's lines as patterns, tried in order
 * at every place, on all rows of up to three places and on many longer ones; then all promises together.
 */
public final class RulesTest {
    // One letter a class; a picture is the same letter raised by PICTURE.
    private static final String GRAPHEME_LETTERS = "orncezipslvtab";
    private static final String WORD_LETTERS = "ornwezifkhamdqub9_g";
    private static final char PICTURE = 0x100;

    private record Rule(Pattern before, Pattern behind, boolean boundary) {
        boolean fits(String left, String right) {
            return before.matcher(left).find() && behind.matcher(right).lookingAt();
        }
    }

    private static final List<Rule> GRAPHEME_RULES = new ArrayList<>();
    private static final List<Rule> WORD_RULES_FIRST = new ArrayList<>();
    private static final List<Rule> WORD_RULES_THEN = new ArrayList<>();

    private static void rule(List<Rule> rules, String before, boolean boundary, String behind) {
        rules.add(new Rule(Pattern.compile("(?:" + before + ")\\z", Pattern.DOTALL),
            Pattern.compile(behind, Pattern.DOTALL), boundary));
    }

    /** A class of letters, with picture or without. */
    private static String of(String letters) {
        StringBuilder all = new StringBuilder("[");
        for (char c : letters.toCharArray()) {
            all.append(c).append((char) (c + PICTURE));
        }
        return all.append("]").toString();
    }

    private static String notOf(String letters) {
        return "[^" + of(letters).substring(1);
    }

    private static final String ANY_PICTURE = "[" + PICTURE + "-\u01ff]";

    private static void graphemeRules() {
        List<Rule> r = GRAPHEME_RULES;
        rule(r, of("r"), false, of("n"));
        rule(r, of("rnc"), true, "");
        rule(r, "", true, of("rnc"));
        rule(r, of("l"), false, of("lvab"));
        rule(r, of("av"), false, of("vt"));
        rule(r, of("bt"), false, of("t"));
        rule(r, "", false, of("ezs"));
        rule(r, of("p"), false, "");
        rule(r, ANY_PICTURE + of("e") + "*" + of("z"), false, ANY_PICTURE);
        rule(r, "(?:^|" + notOf("i") + ")(?:" + of("i") + of("i") + ")*" + of("i"), false, of("i"));
        rule(r, "", true, "");
    }

    private static void wordRules() {
        List<Rule> r = WORD_RULES_FIRST;
        rule(r, of("r"), false, of("n"));
        rule(r, of("rnw"), true, "");
        rule(r, "", true, of("rnw"));
        rule(r, of("z"), false, ANY_PICTURE);
        rule(r, of("g"), false, of("g"));
        rule(r, "", false, of("efz"));
        r = WORD_RULES_THEN;
        rule(r, "[ah]", false, "[ah]");
        rule(r, "[ah]", false, "[mqu][ah]");
        rule(r, "[ah][mqu]", false, "[ah]");
        rule(r, "h", false, "u");
        rule(r, "h", false, "bh");
        rule(r, "hb", false, "h");
        rule(r, "9", false, "9");
        rule(r, "[ah]", false, "9");
        rule(r, "9", false, "[ah]");
        rule(r, "9[dqu]", false, "9");
        rule(r, "9", false, "[dqu]9");
        rule(r, "k", false, "k");
        rule(r, "[ah9k_]", false, "_");
        rule(r, "_", false, "[ah9k]");
        rule(r, "(?:^|[^i])(?:ii)*i", false, "i");
        rule(r, "", true, "");
    }

    private static Boolean firstFit(List<Rule> rules, String left, String right) {
        for (Rule rule : rules) {
            if (rule.fits(left, right)) {
                return rule.boundary();
            }
        }
        return null;
    }

    private static boolean boundary(int kind, String text, int i) {
        if (i == 0 || i == text.length()) {
            return !text.isEmpty();
        }
        String left = text.substring(0, i);
        String right = text.substring(i);
        if (kind == Checks.GRAPHEMES) {
            return firstFit(GRAPHEME_RULES, left, right);
        }
        Boolean first = firstFit(WORD_RULES_FIRST, left, right);
        return first != null ? first : firstFit(WORD_RULES_THEN, bare(left), bare(right));
    }

    private static final Pattern ATTACHED = Pattern.compile("([^rnw])[efz]+");

    private static String bare(String text) {
        StringBuilder plain = new StringBuilder();
        for (char c : text.toCharArray()) {
            plain.append(c >= PICTURE ? (char) (c - PICTURE) : c);
        }
        return ATTACHED.matcher(plain).replaceAll("$1");
    }

    private static String text(int kind, int[] codes) {
        String letters = kind == Checks.GRAPHEMES ? GRAPHEME_LETTERS : WORD_LETTERS;
        StringBuilder text = new StringBuilder();
        for (int code : codes) {
            char c = letters.charAt(code / 2);
            text.append(code % 2 == 1 ? (char) (c + PICTURE) : c);
        }
        return text.toString();
    }

    private static EdgeFinder finder(int kind, int[] codes) {
        EdgeFinder x = new EdgeFinder();
        for (int code : codes) {
            x.add(kind == 0 ? code / 2 : 0, kind == 1 ? code / 2 : 0, code % 2 == 1);
        }
        return x;
    }

    private static boolean[] boundaries(int kind, String text) {
        boolean[] wants = new boolean[text.length() + 1];
        for (int i = 0; i <= text.length(); i++) {
            wants[i] = boundary(kind, text, i);
        }
        return wants;
    }

    private static void everyEdge(int kind, int[] codes) {
        String text = text(kind, codes);
        boolean[] wants = boundaries(kind, text);
        EdgeFinder x = finder(kind, codes);
        for (int i = 0; i < wants.length; i++) {
            Checks.due("edge(" + kind + ", " + i + ") of " + text, x.edge(kind, i), wants[i]);
        }
    }

    private static void everyAnswer(int kind, EdgeFinder x, String text) {
        boolean[] wants = boundaries(kind, text);
        int hash = 1;
        int rank = 0;
        int last = -1;
        for (int i = 0; i < wants.length; i++) {
            Checks.due("next back " + i + " of " + text, x.next(kind, i, true), last);
            if (wants[i]) {
                if (last >= 0) {
                    Checks.due("next " + last + " of " + text, x.next(kind, last, false), i);
                }
                hash = 31 * hash + i;
                rank++;
                last = i;
            }
            Checks.due("edge " + i + " of " + text, x.edge(kind, i), wants[i]);
            Checks.due("rank " + i + " of " + text, x.rank(kind, i), rank);
        }
        Checks.due("hash of " + text, x.hash(kind), hash);
    }

    private static void allShortRows(int kind, int codes) {
        everyEdge(kind, new int[0]);
        for (int a = 0; a < codes; a++) {
            everyEdge(kind, new int[] {a});
            for (int b = 0; b < codes; b++) {
                everyEdge(kind, new int[] {a, b});
                for (int c = 0; c < codes; c++) {
                    everyEdge(kind, new int[] {a, b, c});
                }
            }
        }
    }

    /** Rows of a few classes only, so that long patterns come about. */
    private static void longRows(int kind, int codes, Random random) {
        for (int round = 0; round < 20000; round++) {
            int[] few = new int[2 + random.nextInt(5)];
            for (int k = 0; k < few.length; k++) {
                few[k] = random.nextInt(codes);
            }
            int[] row = new int[random.nextInt(14)];
            for (int k = 0; k < row.length; k++) {
                row[k] = few[random.nextInt(few.length)];
            }
            everyAnswer(kind, finder(kind, row), text(kind, row));
        }
    }

    /** Runs of changes with questions between them, so that an answer kept too long is seen. */
    private static void changes(int kind, int codes, Random random) {
        for (int round = 0; round < 2000; round++) {
            EdgeFinder x = new EdgeFinder();
            int[] row = new int[0];
            for (int step = 0; step < 60; step++) {
                row = change(kind, x, row, random, codes);
                String text = text(kind, row);
                int i = random.nextInt(row.length + 1);
                Checks.due("edge " + i + " of " + text, x.edge(kind, i), boundary(kind, text, i));
            }
        }
    }

    private static int[] change(int kind, EdgeFinder x, int[] row, Random random, int codes) {
        int code = random.nextInt(codes);
        int g = kind == 0 ? code / 2 : 0;
        int w = kind == 1 ? code / 2 : 0;
        int choice = random.nextInt(10);
        if (choice == 0) {
            int n = random.nextInt(row.length + 1);
            Checks.due("cut", x.cut(n), row.length);
            return Arrays.copyOf(row, n);
        }
        if (choice < 5 && row.length > 0) {
            int i = random.nextInt(row.length);
            x.set(i, g, w, code % 2 == 1);
            row[i] = code;
            return row;
        }
        int[] longer = Arrays.copyOf(row, row.length + 1);
        longer[row.length] = code;
        Checks.due("add", x.add(g, w, code % 2 == 1), longer.length);
        return longer;
    }

    /** Whole lives of 512 calls, with classes of both kinds in one row and a wrong number now and then. */
    private static void wholeLives(Random random) {
        for (int round = 0; round < 100; round++) {
            EdgeFinder x = new EdgeFinder();
            List<int[]> row = new ArrayList<>();
            for (int call = 0; call < 512; call++) {
                if (random.nextBoolean()) {
                    question(x, row, random);
                } else {
                    changeBoth(x, row, random);
                }
            }
        }
    }

    /** A number of 0 .. last, seldom one just outside. */
    private static int number(int last, Random random) {
        return random.nextInt(15) == 0 ? (random.nextBoolean() ? -1 : last + 1) : random.nextInt(last + 1);
    }

    private static boolean within(int number, int last) {
        return number >= 0 && number <= last;
    }

    private static void dueOrRefused(String what, boolean good, Checks.Call call, Object want) {
        if (good) {
            Checks.due(what, call.answer(), want);
        } else {
            Checks.dueThrow(what, IllegalArgumentException.class, call);
        }
    }

    private static void changeBoth(EdgeFinder x, List<int[]> row, Random random) {
        int g = number(13, random);
        int w = number(18, random);
        int picture = random.nextInt(2);
        boolean good = within(g, 13) && within(w, 18);
        int[] place = {2 * g + picture, 2 * w + picture};
        int choice = random.nextInt(60);
        int size = row.size();
        if (choice == 0) {
            int n = number(size, random);
            dueOrRefused("cut " + n, within(n, size), () -> x.cut(n), size);
            row.subList(within(n, size) ? n : size, size).clear();
        } else if (choice < 30 && size > 0) {
            int i = number(size - 1, random);
            boolean fits = good && within(i, size - 1);
            dueOrRefused("set " + i, fits, () -> Checks.set(x, i, g, w, picture == 1), "nothing");
            if (fits) {
                row.set(i, place);
            }
        } else {
            dueOrRefused("add", good, () -> x.add(g, w, picture == 1), size + 1);
            if (good) {
                row.add(place);
            }
        }
    }

    private static void question(EdgeFinder x, List<int[]> row, Random random) {
        int kind = number(1, random);
        int i = number(row.size(), random);
        boolean good = within(kind, 1) && within(i, row.size());
        int read = within(kind, 1) ? kind : 0;
        String text = text(read, row.stream().mapToInt(place -> place[read]).toArray());
        boolean[] wants = boundaries(read, text);
        int[] at = IntStream.range(0, wants.length).filter(k -> wants[k]).toArray();
        String asked = "(" + kind + ", " + i + ") of " + text;
        switch (random.nextInt(5)) {
            case 0 -> dueOrRefused("edge" + asked, good, () -> x.edge(kind, i), good && wants[i]);
            case 1 -> dueOrRefused("next" + asked, good, () -> x.next(kind, i, false),
                Arrays.stream(at).filter(k -> k > i).findFirst().orElse(-1));
            case 2 -> dueOrRefused("next back" + asked, good, () -> x.next(kind, i, true),
                Arrays.stream(at).filter(k -> k < i).max().orElse(-1));
            case 3 -> dueOrRefused("rank" + asked, good, () -> x.rank(kind, i),
                Arrays.stream(at).filter(k -> k <= i).count());
            // Java's own hash of an array is the document's: from 1 on, 31 h + element.
            default -> dueOrRefused("hash" + asked, within(kind, 1), () -> x.hash(kind), Arrays.hashCode(at));
        }
    }

    public static void main(String[] args) {
        graphemeRules();
        wordRules();
        for (int kind = 0; kind <= 1; kind++) {
            int codes = 2 * (kind == 0 ? 14 : 19);
            Random random = new Random(29 + kind);
            allShortRows(kind, codes);
            longRows(kind, codes, random);
            changes(kind, codes, random);
        }
        wholeLives(new Random(31));
        Checks.end();
    }
}
