/** Promise 5: each rule of the document, with its edges, and wrong numbers. */
public final class EdgeTest {
    public static void main(String[] args) {
        graphemeEnds();
        graphemeSyllables();
        graphemeJoiners();
        graphemeIndicators();
        wordEnds();
        wordAttached();
        wordLetters();
        wordNumbers();
        wordRuns();
        wordIndicators();
        kindsAreApart();
        fromTheFirstToBehindTheLast();
        kindIs0Or1();
        emptyRow();
        wrongNumbers();
        Checks.end();
    }

    private static void graphemes(String note) {
        Checks.dueMarks(Checks.GRAPHEMES, note);
    }

    private static void words(String note) {
        Checks.dueMarks(Checks.WORDS, note);
    }

    private static void graphemeEnds() {
        graphemes("| Other |");
        graphemes("| Extend |");
        graphemes("| Other | Other |");
        graphemes("| CR x LF |");
        graphemes("| LF | CR |");
        graphemes("| CR | CR x LF | LF |");
        graphemes("| CR | Extend | LF | ZWJ | Control | SpacingMark |");
        graphemes("| Prepend | CR |");
        graphemes("| Prepend | LF |");
        graphemes("| Prepend | Control |");
        graphemes("| Control | Control |");
    }

    private static void graphemeSyllables() {
        graphemes("| L x L x V x V x T x T | L |");
        graphemes("| L x LV x V x T | V |");
        graphemes("| L x LVT x T | LV |");
        graphemes("| L | T |");
        graphemes("| LV | LV | LVT | V | L |");
        graphemes("| LV x T | LVT |");
        graphemes("| LVT | V | LV |");
        graphemes("| T | V |");
        graphemes("| V | L | Other |");
        graphemes("| L x Extend | V |");
    }

    private static void graphemeJoiners() {
        graphemes("| Other x Extend x ZWJ x SpacingMark | Other |");
        graphemes("| Prepend x Prepend x Other | Prepend x RI |");
        graphemes("| Prepend x Extend | Other |");
        graphemes("| Other+P x ZWJ x Other+P |");
        graphemes("| Other+P x Extend x Extend x ZWJ x Other+P x ZWJ x Other+P |");
        graphemes("| Other+P | Other+P |");
        graphemes("| Other+P x Extend | Other+P |");
        graphemes("| Other x ZWJ | Other+P |");
        graphemes("| Other+P x ZWJ | Other |");
        graphemes("| Other+P x ZWJ x ZWJ | Other+P |");
        graphemes("| Other+P x ZWJ x Extend | Other+P |");
        graphemes("| Other+P x SpacingMark x ZWJ | Other+P |");
        graphemes("| ZWJ | Other+P |");
        graphemes("| Other+P x ZWJ+P x Other+P |");
        graphemes("| ZWJ+P | Other+P |");
        graphemes("| ZWJ+P x ZWJ x Other+P |");
        graphemes("| Extend+P x ZWJ x L+P x ZWJ x RI+P |");
        graphemes("| Other+P x ZWJ | Control+P | ZWJ x Other+P |");
    }

    private static void graphemeIndicators() {
        graphemes("| RI x RI | RI x RI | RI | Other |");
        graphemes("| Other | RI x RI | RI |");
        graphemes("| RI x Extend | RI x RI | RI |");
        graphemes("| RI | L | RI x RI |");
        graphemes("| Prepend x RI x RI | RI |");
        graphemes("| RI+P x ZWJ x RI+P x RI | RI |");
    }

    private static void wordEnds() {
        words("| Other |");
        words("| Other | Other |");
        words("| CR x LF |");
        words("| LF | CR | Newline | Newline | CR |");
        words("| CR | Extend | LF | Format | Newline | ZWJ |");
        words("| ALetter | CR | ALetter | LF | ALetter | Newline | ALetter |");
        words("| WSegSpace x WSegSpace x WSegSpace | Other |");
        words("| WSegSpace x Extend | WSegSpace |");
        words("| WSegSpace | ALetter |");
    }

    private static void wordAttached() {
        words("| Other x Extend x Format x ZWJ | Other |");
        words("| Extend x Extend | ALetter |");
        words("| ALetter x Format x ALetter |");
        words("| Newline | Format x Extend | ALetter |");
        words("| ALetter | LF | Extend | ALetter |");
        words("| ZWJ x Other+P |");
        words("| Other x ZWJ x Other+P | Other+P |");
        words("| ALetter x ZWJ x Other+P |");
        words("| ZWJ x Extend | Other+P |");
        words("| ZWJ | CR+P |");
        words("| ZWJ | Newline+P | ZWJ x WSegSpace+P |");
    }

    private static void wordLetters() {
        words("| ALetter x ALetter x Hebrew x Hebrew x ALetter |");
        words("| ALetter x MidLetter x ALetter |");
        words("| Hebrew x MidNumLet x ALetter x Single x Hebrew |");
        words("| ALetter | MidNum | ALetter |");
        words("| ALetter | MidLetter | MidLetter | ALetter |");
        words("| ALetter | Single |");
        words("| ALetter | MidLetter x Extend |");
        words("| MidLetter | ALetter |");
        words("| Extend | MidLetter | ALetter |");
        words("| ALetter x ZWJ x MidLetter x Extend x Format x ALetter |");
        words("| ALetter | MidLetter x Extend | CR | ALetter |");
        words("| ALetter | MidLetter | Newline | Extend | ALetter |");
        words("| ALetter | MidLetter | Numeric |");
        words("| ALetter x Single x ALetter x Single x ALetter | Single |");
        words("| Hebrew x Single |");
        words("| Hebrew x Single | Other |");
        words("| Hebrew x Extend x Single | Single |");
        words("| Hebrew x Double x Hebrew |");
        words("| Hebrew x Format x Double x ZWJ x Hebrew |");
        words("| Hebrew | Double | ALetter |");
        words("| ALetter | Double | Hebrew |");
        words("| Hebrew | Double |");
        words("| Double | Hebrew |");
    }

    private static void wordNumbers() {
        words("| Numeric x Numeric x ALetter x Numeric x Hebrew x Numeric |");
        words("| Numeric x MidNum x Numeric x MidNumLet x Numeric x Single x Numeric |");
        words("| Numeric | MidLetter | Numeric |");
        words("| Numeric | MidNum | ALetter |");
        words("| Numeric | Single | Hebrew |");
        words("| Numeric | MidNum | MidNum | Numeric |");
        words("| Numeric | MidNum x Extend |");
        words("| Numeric x Extend x MidNum x Format x Numeric |");
        words("| MidNum | Numeric |");
        words("| Numeric | Double | Numeric |");
        words("| ALetter | MidNum | Numeric |");
    }

    private static void wordRuns() {
        words("| Katakana x Katakana x Extend x Katakana | ALetter |");
        words("| Katakana | Numeric |");
        words("| ALetter x ExtendNumLet x ExtendNumLet x Numeric x ExtendNumLet x Katakana |");
        words("| Hebrew x ExtendNumLet x Hebrew |");
        words("| Katakana x ExtendNumLet x ZWJ x ALetter |");
        words("| ExtendNumLet | Other | ExtendNumLet |");
        words("| ExtendNumLet | MidLetter | ExtendNumLet |");
        words("| RI | ExtendNumLet | RI |");
    }

    private static void wordIndicators() {
        words("| RI x RI | RI x RI | RI |");
        words("| RI x Extend x RI x Format | RI x ZWJ x RI | RI |");
        words("| ALetter | RI x RI | RI | ALetter |");
        words("| RI | CR | RI x RI |");
        words("| RI | Newline | Extend | RI x RI |");
        words("| Extend | RI x RI | RI |");
        words("| RI x RI x ZWJ x RI+P x RI | RI |");
    }

    private static void kindsAreApart() {
        EdgeFinder x = new EdgeFinder();
        x.add(1, 10, false);
        x.add(2, 1, false);
        x.add(3, 2, false);
        Checks.due("graphemes at 1", x.edge(0, 1), false);
        Checks.due("graphemes at 2", x.edge(0, 2), true);
        Checks.due("words at 1", x.edge(1, 1), true);
        Checks.due("words at 2", x.edge(1, 2), false);
    }

    private static void fromTheFirstToBehindTheLast() {
        EdgeFinder x = Checks.row(0, "| Other x Extend x Extend |");
        for (int kind = 0; kind <= 1; kind++) {
            int asked = kind;
            Checks.dueRefused("edge(-1)", x, () -> x.edge(asked, -1));
            Checks.due("before the first", x.edge(kind, 0), true);
            Checks.due("before the last", x.edge(kind, 2), kind == 1);
            Checks.due("behind the last", x.edge(kind, 3), true);
            Checks.dueRefused("edge(4)", x, () -> x.edge(asked, 4));
        }
        x.cut(2);
        Checks.due("behind the last that is left", x.edge(0, 2), true);
        Checks.dueRefused("behind what was cut", x, () -> x.edge(0, 3));
        x.add(4, 0, false);
        Checks.due("no longer behind the last", x.edge(0, 2), false);
    }

    private static void kindIs0Or1() {
        EdgeFinder x = Checks.row(0, "| Other x Extend |");
        Checks.dueRefused("kind -1", x, () -> x.edge(-1, 1));
        Checks.due("kind 0", x.edge(0, 1), false);
        Checks.due("kind 1", x.edge(1, 1), true);
        Checks.dueRefused("kind 2", x, () -> x.edge(2, 1));
    }

    private static void emptyRow() {
        EdgeFinder x = new EdgeFinder();
        for (int kind = 0; kind <= 1; kind++) {
            int asked = kind;
            Checks.due("edge(0)", x.edge(kind, 0), false);
            Checks.dueRefused("edge(1)", x, () -> x.edge(asked, 1));
            Checks.dueRefused("edge(-1)", x, () -> x.edge(asked, -1));
        }
    }

    private static void wrongNumbers() {
        EdgeFinder x = Checks.row(0, "| Other x Extend | Other |");
        for (int far : Checks.FAR_OUT) {
            Checks.dueRefused("edge(" + far + ", 0)", x, () -> x.edge(far, 0));
            Checks.dueRefused("edge(0, " + far + ")", x, () -> x.edge(0, far));
        }
        for (int far : new int[] {4, 1000, 1001, Integer.MAX_VALUE}) {
            Checks.dueRefused("edge(" + far + ", 0)", x, () -> x.edge(far, 0));
            Checks.dueRefused("edge(1, " + far + ")", x, () -> x.edge(1, far));
        }
        Checks.dueRefused("edge(2, 0)", x, () -> x.edge(2, 0));
        Checks.due("edge(0, 3)", x.edge(0, 3), true);
    }
}
