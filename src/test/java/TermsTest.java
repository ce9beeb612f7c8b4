/** The document's Terms: a test of its own for each boundary case that a sentence there names. */
public final class TermsTest {
    private static final int MOST_CALLS = 512;
    private static final String[] ATTACHED = {"Extend", "Format", "ZWJ"};
    private static final String[] LINE_ENDS = {"CR", "LF", "Newline"};

    public static void main(String[] args) {
        lastOf512CallsIsAnswered();
        longestLookAheadOf512Calls();
        atMost1000Places();
        fullRowIsUsedToItsLastPlace();
        withAPictureOrWithout();
        pictureBesideEveryClass();
        firstClasses();
        lastClasses();
        bothEndsOfATextThatIsNotEmpty();
        anEmptyTextHasNone();
        firstRuleThatFitsInGraphemes();
        firstRuleThatFitsInWords();
        attachedBehindAny();
        attachedBehindALineEndOrTheBeginning();
        oddNumberOfIndicators();
        wrongNumberIsThrownBeforeFullRow();
        Checks.end();
    }

    private static void graphemes(String note) {
        Checks.dueMarks(Checks.GRAPHEMES, note);
    }

    private static void words(String note) {
        Checks.dueMarks(Checks.WORDS, note);
    }

    private static void lastOf512CallsIsAnswered() {
        EdgeFinder added = new EdgeFinder();
        for (int k = 1; k <= MOST_CALLS; k++) {
            Checks.due("add, call " + k, added.add(0, 10, false), k);
        }
        EdgeFinder asked = Checks.others(MOST_CALLS - 1);
        Checks.due("rank, call 512", asked.rank(0, MOST_CALLS - 1), MOST_CALLS);
    }

    /** The letter that decides about the first boundaries stands as far off as calls allow. */
    private static void longestLookAheadOf512Calls() {
        EdgeFinder x = new EdgeFinder();
        x.add(0, 10, false);
        x.add(0, 11, false);
        for (int k = 3; k <= MOST_CALLS - 3; k++) {
            x.add(4, 4, false);
        }
        Checks.due("no letter ahead", x.next(1, 0, false), 1);
        x.add(0, 10, false);
        Checks.due("a letter far ahead", x.next(1, 0, false), MOST_CALLS - 2);
    }

    private static void atMost1000Places() {
        EdgeFinder x = Checks.others(999);
        Checks.due("the 1000th place", x.add(4, 10, false), 1000);
        String before = Checks.state(x);
        for (boolean picture : new boolean[] {false, true}) {
            Checks.dueThrow("the 1001st", IndexOutOfBoundsException.class, () -> x.add(13, 18, picture));
            Checks.dueThrow("the 1001st", IndexOutOfBoundsException.class, () -> x.add(0, 0, picture));
        }
        Checks.due("the row after that", Checks.state(x), before);
        Checks.due("cut makes room", x.cut(999), 1000);
        Checks.due("for one", x.add(0, 0, false), 1000);
        Checks.dueThrow("not two", IndexOutOfBoundsException.class, () -> x.add(0, 0, false));
    }

    private static void fullRowIsUsedToItsLastPlace() {
        EdgeFinder x = Checks.others(1000);
        for (int kind = 0; kind <= 1; kind++) {
            int asked = kind;
            Checks.due("edge(1000)", x.edge(kind, 1000), true);
            Checks.due("rank(1000)", x.rank(kind, 1000), 1001);
            Checks.due("next(999)", x.next(kind, 999, false), 1000);
            Checks.due("next(1000)", x.next(kind, 1000, false), -1);
            Checks.due("next back(1000)", x.next(kind, 1000, true), 999);
            Checks.dueRefused("edge(1001)", x, () -> x.edge(asked, 1001));
            Checks.dueRefused("rank(1001)", x, () -> x.rank(asked, 1001));
            Checks.dueRefused("next(1001)", x, () -> x.next(asked, 1001, true));
        }
        x.set(999, 4, 4, false);
        Checks.due("the last place set, graphemes", x.next(0, 998, false), 1000);
        Checks.due("the last place set, words", x.next(1, 998, false), 1000);
        Checks.dueRefused("set(1000)", x, () -> Checks.set(x, 1000, 0, 0, false));
        Checks.dueRefused("cut(1001)", x, () -> x.cut(1001));
        Checks.due("cut(1000)", x.cut(1000), 1000);
    }

    private static void withAPictureOrWithout() {
        graphemes("| Other+P x ZWJ x Other+P |");
        graphemes("| Other x ZWJ | Other+P |");
        graphemes("| Other+P x ZWJ | Other |");
        graphemes("| Other x ZWJ | Other |");
        words("| Other x ZWJ x Other+P |");
        words("| Other+P x ZWJ | Other |");
    }

    /** Every class may bear a picture; only the line ends' and Control's own boundaries come before it. */
    private static void pictureBesideEveryClass() {
        for (String name : Checks.GRAPHEME_NAMES) {
            boolean control = name.equals("CR") || name.equals("LF") || name.equals("Control");
            graphemes("| Other+P x ZWJ " + (control ? "| " : "x ") + name + "+P |");
            String mark = control ? " | " : " x ";
            graphemes("| " + name + "+P" + mark + "ZWJ x Other+P |");
        }
        for (String name : Checks.WORD_NAMES) {
            boolean lineEnd = name.equals("CR") || name.equals("LF") || name.equals("Newline");
            words("| Other x ZWJ " + (lineEnd ? "| " : "x ") + name + "+P |");
        }
    }

    private static void firstClasses() {
        graphemes("| Other | Other | T x Extend | Other |");
        words("| Other | Other | WSegSpace x Extend | Other |");
        EdgeFinder x = new EdgeFinder();
        x.add(7, 10, false);
        x.add(0, 0, false);
        Checks.due("g 0: Prepend x Other", x.edge(0, 1), false);
        Checks.due("w 0: ALetter | Other", x.edge(1, 1), true);
    }

    private static void lastClasses() {
        EdgeFinder x = new EdgeFinder();
        x.add(9, 0, false);
        x.add(13, 18, false);
        x.add(11, 18, false);
        x.add(13, 0, false);
        Checks.due("g 13: L x LVT", x.edge(0, 1), false);
        Checks.due("g 13: LVT x T", x.edge(0, 2), false);
        Checks.due("g 13: T | LVT", x.edge(0, 3), true);
        Checks.due("w 18: Other | WSegSpace", x.edge(1, 1), true);
        Checks.due("w 18: WSegSpace x WSegSpace", x.edge(1, 2), false);
        Checks.due("w 18: WSegSpace | Other", x.edge(1, 3), true);
    }

    /** Also where the one place is of a class that a rule would bind to what is before or behind it. */
    private static void bothEndsOfATextThatIsNotEmpty() {
        for (String name : Checks.GRAPHEME_NAMES) {
            graphemes("| " + name + " |");
            graphemes("| " + name + "+P |");
        }
        for (String name : Checks.WORD_NAMES) {
            words("| " + name + " |");
            words("| " + name + "+P |");
        }
    }

    private static void anEmptyTextHasNone() {
        EdgeFinder cut = Checks.row(Checks.GRAPHEMES, "| Other | CR x LF |");
        cut.rank(0, 3);
        cut.rank(1, 3);
        cut.cut(0);
        for (EdgeFinder empty : new EdgeFinder[] {new EdgeFinder(), cut}) {
            for (int kind = 0; kind <= 1; kind++) {
                Checks.due("edge of an empty row", empty.edge(kind, 0), false);
                Checks.due("rank of an empty row", empty.rank(kind, 0), 0);
                Checks.due("next of an empty row", empty.next(kind, 0, false), -1);
                Checks.due("next back of an empty row", empty.next(kind, 0, true), -1);
                Checks.due("hash of an empty row", empty.hash(kind), 1);
            }
        }
    }

    private static void firstRuleThatFitsInGraphemes() {
        graphemes("| CR x LF |");
        for (String control : new String[] {"CR", "LF", "Control"}) {
            for (String joined : new String[] {"Extend", "ZWJ", "SpacingMark"}) {
                graphemes("| Other | " + control + " | " + joined + " |");
            }
            graphemes("| Prepend | " + control + " |");
            graphemes("| Other+P x ZWJ | " + control + "+P |");
        }
        graphemes("| Prepend x RI x RI | RI |");
        graphemes("| RI+P x RI+P x ZWJ x RI+P x RI |");
    }

    private static void firstRuleThatFitsInWords() {
        words("| CR x LF |");
        for (String lineEnd : LINE_ENDS) {
            for (String attached : ATTACHED) {
                words("| Other | " + lineEnd + " | " + attached + " |");
            }
            words("| ZWJ | " + lineEnd + "+P |");
            words("| ALetter | MidLetter | " + lineEnd + " | ALetter |");
        }
        words("| WSegSpace x WSegSpace |");
        words("| ZWJ x Other+P |");
        for (String attached : ATTACHED) {
            words("| WSegSpace x " + attached + " | WSegSpace |");
            words("| ZWJ x " + attached + (attached.equals("ZWJ") ? " x" : " |") + " Other+P |");
        }
    }

    /** One, and several of every sort, behind each part of each rule that goes over them. */
    private static void attachedBehindAny() {
        for (String attached : new String[] {"Extend", "Format", "ZWJ", "Format x ZWJ x Extend x Extend"}) {
            String over = " x " + attached;
            words("| ALetter" + over + " x Hebrew |");
            words("| ALetter" + over + " x MidLetter" + over + " x ALetter" + over + " |");
            words("| ALetter" + over + " | MidLetter" + over + " | Numeric |");
            words("| Hebrew" + over + " x Single" + over + " | Other |");
            words("| Hebrew" + over + " x Double" + over + " x Hebrew |");
            words("| Numeric" + over + " x Numeric" + over + " x ALetter" + over + " x Numeric |");
            words("| Numeric" + over + " x MidNum" + over + " x Numeric |");
            words("| Katakana" + over + " x Katakana" + over + " x ExtendNumLet |");
            words("| ExtendNumLet" + over + " x ExtendNumLet" + over + " x Katakana |");
            words("| RI" + over + " x RI" + over + " | RI |");
            words("| Other" + over + " | Other" + over + " |");
        }
    }

    private static void attachedBehindALineEndOrTheBeginning() {
        for (String attached : ATTACHED) {
            words("| " + attached + " | ALetter x ALetter |");
            words("| " + attached + " x Extend x Format | RI x RI | RI |");
            for (String lineEnd : LINE_ENDS) {
                words("| ALetter | " + lineEnd + " | " + attached + " | ALetter |");
                words("| RI | " + lineEnd + " | " + attached + " x Extend | RI x RI |");
                words("| ALetter | MidLetter | " + lineEnd + " | " + attached + " | ALetter |");
            }
            words("| CR | " + attached + " | LF |");
        }
    }

    private static void oddNumberOfIndicators() {
        for (int count = 1; count <= 9; count++) {
            StringBuilder note = new StringBuilder("| RI");
            for (int k = 1; k < count; k++) {
                note.append(k % 2 == 1 ? " x RI" : " | RI");
            }
            graphemes(note + " |");
            words(note + " |");
            graphemes("| Other " + note + " | Other |");
            words("| Other " + note + " | Other |");
        }
        graphemes("| RI x Extend | RI x RI |");
        words("| RI x Extend x RI | RI |");
    }

    private static void wrongNumberIsThrownBeforeFullRow() {
        EdgeFinder x = Checks.others(1000);
        for (int g : new int[] {Integer.MIN_VALUE, -1, 14, Integer.MAX_VALUE}) {
            Checks.dueRefused("add(" + g + ", 0) to a full row", x, () -> x.add(g, 0, false));
            Checks.dueRefused("add(" + g + ", 19) to a full row", x, () -> x.add(g, 19, true));
        }
        for (int w : new int[] {Integer.MIN_VALUE, -1, 19, Integer.MAX_VALUE}) {
            Checks.dueRefused("add(0, " + w + ") to a full row", x, () -> x.add(0, w, false));
        }
        Checks.dueThrow("add(0, 0)", IndexOutOfBoundsException.class, () -> x.add(0, 0, false));
    }
}
