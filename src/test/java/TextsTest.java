/** Promises 28 to 38: what is asked of texts, but for their pieces; sentence by sentence. */
public final class TextsTest {

    private static final String NO_TEXT = "Throws IndexOutOfBoundsException if there is no such TEXT";
    private static final String NO_TEXT_BOTH = NO_TEXT + " (both)";
    private static final String NO_QUESTION = "Throws IllegalArgumentException if question is not 0 to 13";
    private static final String FIRST_NAMED = "If several exceptions apply, the one that is named first";

    private static final String A29 = "a".repeat(29);
    private static final String A30 = "a".repeat(30);

    public static void main(String[] args) {
        length();
        sign();
        signs();
        kindsOf();
        count();
        countKind();
        isAll();
        first();
        firstThrows();
        alike();
        names();
        namesThrow();
        Tally.end();
    }

    private static void sentence(int promise, String words) {
        Tally.sentence(promise, words);
    }

    private static void length() {
        sentence(28, "Returns how many SIGNS it has");
        Run.of("", "a", A30).due("length(0)", 0).due("length(1)", 1).due("length(2)", 30)
            .due("add(2, 98)", Run.REFUSED).due("length(2)", 30);
        Run.of(A29).due("length(0)", 29);
        sentence(28, NO_TEXT);
        Run.each("length(%)", Run.NO_TEXTS, Run.NO_PLACE, "a", "b", "c");
    }

    private static void sign() {
        sentence(29, "Returns the SIGN there");
        Run.of("\0\u007f\u0080\u00ff", "b").due("sign(0, 0)", 0).due("sign(0, 1)", 127)
            .due("sign(0, 2)", 128).due("sign(0, 3)", 255).due("sign(1, 0)", 98);
        Run.of("b" + "a".repeat(28) + "c").due("sign(0, 0)", 98).due("sign(0, 1)", 97)
            .due("sign(0, 28)", 97).due("sign(0, 29)", 99);
        sentence(29, NO_TEXT + ", or no such PLACE in it");
        Run.each("sign(%, 0)", Run.NO_TEXTS, Run.NO_PLACE, "a", "b", "c");
        Run.each("sign(0, %)", new String[] {"-1", "0", "MIN", "MAX"}, Run.NO_PLACE, "", "a", "b");
        Run.each("sign(0, %)", new String[] {"-1", "1", "29", "MIN", "MAX"}, Run.NO_PLACE, "a", "bc");
        Run.each("sign(0, %)", new String[] {"-1", "30", "31", "MIN", "MAX"}, Run.NO_PLACE, A30);
        sentence(29, "a PLACE of a SIGN that went is none");
        Run.of(A30).due("cut(0, 0, 2)", 2).due("sign(0, 2)", Run.NO_PLACE)
            .due("clear(0)", 2).due("sign(0, 0)", Run.NO_PLACE);
    }

    private static void signs() {
        sentence(30, "Returns its SIGNS, as numbers with \" \" between");
        Run.of("\u00ff\0\n", "z").due("signs(0)", "255 0 10").due("signs(1)", "122");
        Run.of("\0", "\u00ff").due("signs(0)", "0").due("signs(1)", "255");
        Run.of(A30).due("signs(0)", "97" + " 97".repeat(29));
        sentence(30, "\"\" without any");
        Run.of("", "a", "b").due("signs(0)", "").due("clear(1)", 1).due("signs(1)", "")
            .due("signs(2)", "98");
        sentence(30, NO_TEXT);
        Run.each("signs(%)", Run.NO_TEXTS, Run.NO_PLACE, "a", "b", "c");
    }

    private static void kindsOf() {
        sentence(31, "Returns the KINDS of its SIGNS, likewise");
        Run.of("\u00bb\0A\u00ff", "5").due("kindsOf(0)", "30 15 1 2").due("kindsOf(1)", "9");
        Run.of("\u00bb".repeat(30)).due("kindsOf(0)", "30" + " 30".repeat(29));
        sentence(31, "\"\" without any");
        Run.of("", "a").due("kindsOf(0)", "").due("clear(1)", 1).due("kindsOf(1)", "");
        sentence(31, NO_TEXT);
        Run.each("kindsOf(%)", Run.NO_TEXTS, Run.NO_PLACE, "a", "b", "c");
    }

    private static void count() {
        sentence(32, "Returns of how many PLACES it is so (of the SIGNS there)");
        Run.of("a1 a\t1a", "1").due("count(0, 0)", 7).due("count(0, 1)", 3).due("count(0, 2)", 2)
            .due("count(0, 3)", 5).due("count(0, 6)", 0).due("count(0, 7)", 2).due("count(0, 8)", 1)
            .due("count(0, 9)", 1).due("count(0, 12)", 5).due("count(1, 2)", 1);
        sentence(32, "a TEXT without SIGNS, with one, with 30");
        for (int question = 0; question <= 13; question++) {
            Run.of("", "a").due("count(0, " + question + ")", 0);
        }
        Run.of("a", A30).due("count(0, 1)", 1).due("count(0, 2)", 0).due("count(1, 1)", 30)
            .due("count(1, 0)", 30).due("count(1, 2)", 0);
        Run.of("1" + "a".repeat(28) + "2").due("count(0, 2)", 2).due("count(0, 1)", 28);
        sentence(32, NO_TEXT);
        Run.each("count(%, 0)", Run.NO_TEXTS, Run.NO_PLACE, "a", "b", "c");
        sentence(32, NO_QUESTION);
        Run.of("\0").due("count(0, 0)", 1).due("count(0, 13)", 1);
        Run.each("count(0, %)", Run.NO_QUESTIONS, Run.NO_VALUE, "a");
        Run.each("count(1, %)", Run.NO_QUESTIONS, Run.NO_VALUE, "a");
        sentence(32, FIRST_NAMED);
        Run.each("count(%, 14)", Run.NO_TEXTS, Run.NO_PLACE, "a");
        Run.each("count(3, %)", Run.NO_QUESTIONS, Run.NO_PLACE, "a");
    }

    private static void countKind() {
        sentence(33, "Returns at how many PLACES a SIGN of this KIND stands");
        Run.of("a+a-A", "A").due("countKind(0, 2)", 2).due("countKind(0, 1)", 1)
            .due("countKind(0, 25)", 1).due("countKind(0, 9)", 0).due("countKind(1, 1)", 1);
        sentence(33, "a TEXT without SIGNS, with one, with 30");
        Run.of("", "a", A30).due("countKind(0, 2)", 0).due("countKind(1, 2)", 1)
            .due("countKind(2, 2)", 30).due("countKind(2, 1)", 0).due("cut(2, 0, 3)", 3)
            .due("countKind(2, 2)", 3);
        Run.of("1" + "a".repeat(28) + "2").due("countKind(0, 9)", 2).due("countKind(0, 2)", 28);
        sentence(33, NO_TEXT);
        Run.each("countKind(%, 2)", Run.NO_TEXTS, Run.NO_PLACE, "a", "b", "c");
        sentence(33, "Throws IllegalArgumentException if kind is not 0 to 30");
        Run.of("\u00bb").due("countKind(0, 0)", 0).due("countKind(0, 30)", 1);
        Run.each("countKind(0, %)", Run.NO_KINDS, Run.NO_VALUE, "a");
        Run.each("countKind(1, %)", Run.NO_KINDS, Run.NO_VALUE, "a");
        sentence(33, FIRST_NAMED);
        Run.each("countKind(%, 31)", Run.NO_TEXTS, Run.NO_PLACE, "a");
        Run.each("countKind(3, %)", Run.NO_KINDS, Run.NO_PLACE, "a");
    }

    private static void isAll() {
        sentence(34, "Returns whether it is so of the SIGNS at all PLACES");
        Run.of("ab1", "12").due("isAll(0, 3)", true).due("isAll(0, 0)", true).due("isAll(0, 1)", false)
            .due("isAll(0, 2)", false).due("isAll(0, 6)", false).due("isAll(1, 2)", true);
        Run.of("a", "1").due("isAll(0, 1)", true).due("isAll(0, 2)", false).due("isAll(1, 2)", true);
        Run.of(A30, A29 + "1", "1" + A29).due("isAll(0, 1)", true).due("isAll(1, 1)", false)
            .due("isAll(2, 1)", false).due("isAll(1, 3)", true);
        sentence(34, "(without any, too)");
        for (int question = 0; question <= 13; question++) {
            Run.of("", "a").due("isAll(0, " + question + ")", true);
        }
        Run.of("a").due("clear(0)", 1).due("isAll(0, 2)", true);
        sentence(34, NO_TEXT);
        Run.each("isAll(%, 0)", Run.NO_TEXTS, Run.NO_PLACE, "a", "b", "c");
        sentence(34, NO_QUESTION);
        Run.of("\0").due("isAll(0, 0)", true).due("isAll(0, 13)", true);
        Run.each("isAll(0, %)", Run.NO_QUESTIONS, Run.NO_VALUE, "a");
        Run.each("isAll(1, %)", Run.NO_QUESTIONS, Run.NO_VALUE, "a");
        sentence(34, FIRST_NAMED);
        Run.each("isAll(%, 14)", Run.NO_TEXTS, Run.NO_PLACE, "a");
        Run.each("isAll(3, %)", Run.NO_QUESTIONS, Run.NO_PLACE, "a");
    }

    private static void first() {
        sentence(35, "Returns the first PLACE at which a SIGN stands of which it is so");
        Run.of("1a2b3", "a").due("first(0, 2, false)", 0).due("first(0, 1, false)", 1)
            .due("first(0, 0, false)", 0).due("first(1, 1, false)", 0);
        Run.of(A29 + "1").due("first(0, 2, false)", 29).due("first(0, 1, false)", 0);
        sentence(35, "(or the last one)");
        Run.of("1a2b3", "a").due("first(0, 2, true)", 4).due("first(0, 1, true)", 3)
            .due("first(0, 0, true)", 4).due("first(1, 1, true)", 0);
        Run.of(A29 + "1", "1" + A29).due("first(0, 2, true)", 29).due("first(0, 1, true)", 28)
            .due("first(1, 2, true)", 0).due("first(1, 1, true)", 29);
        sentence(35, "NONE without");
        for (int question = 0; question <= 13; question++) {
            Run.of("", "a").due("first(0, " + question + ", false)", Run.NONE)
                .due("first(0, " + question + ", true)", Run.NONE);
        }
        Run.of("ab", A30).due("first(0, 2, false)", Run.NONE).due("first(0, 2, true)", Run.NONE)
            .due("first(1, 6, false)", Run.NONE).due("first(1, 6, true)", Run.NONE);
        Run.of("a1").due("cut(0, 0, 1)", 1).due("first(0, 2, false)", Run.NONE)
            .due("first(0, 2, true)", Run.NONE);
    }

    private static void firstThrows() {
        sentence(35, NO_TEXT);
        Run.each("first(%, 0, false)", Run.NO_TEXTS, Run.NO_PLACE, "a", "b", "c");
        Run.each("first(%, 0, true)", Run.NO_TEXTS, Run.NO_PLACE, "a", "b", "c");
        sentence(35, NO_QUESTION);
        Run.of("a\0").due("first(0, 0, false)", 0).due("first(0, 13, false)", 1);
        Run.each("first(0, %, false)", Run.NO_QUESTIONS, Run.NO_VALUE, "a");
        Run.each("first(1, %, true)", Run.NO_QUESTIONS, Run.NO_VALUE, "a");
        sentence(35, FIRST_NAMED);
        Run.each("first(%, 14, true)", Run.NO_TEXTS, Run.NO_PLACE, "a");
        Run.each("first(3, %, false)", Run.NO_QUESTIONS, Run.NO_PLACE, "a");
    }

    private static void alike() {
        sentence(36, "whether both have as many SIGNS, and at each PLACE two of the same KIND");
        Run.of("aB1", "zY9", "aBc").due("alike(0, 1)", true).due("alike(1, 0)", true)
            .due("alike(0, 2)", false).due("alike(2, 0)", false);
        Run.of("aB1", "1B1", "aB").due("alike(0, 1)", false).due("alike(0, 2)", false)
            .due("alike(2, 0)", false);
        Run.of("a", "b", "1").due("alike(0, 1)", true).due("alike(0, 2)", false);
        Run.of(A30, "b".repeat(30), A29 + "B").due("alike(0, 1)", true).due("alike(0, 2)", false)
            .due("drop(2, 29)", 66).due("alike(0, 2)", false).due("alike(2, 0)", false);
        sentence(36, "two of the same KIND, not of the same QUESTIONS alone");
        Run.of("\u00aa", "a").due("alike(0, 1)", false);
        sentence(36, "both without SIGNS, one without");
        Run.of("", "a", "").due("alike(0, 2)", true).due("alike(0, 1)", false).due("alike(1, 0)", false);
        sentence(36, "or the same");
        Run.of("", "a1", A30).due("alike(0, 0)", true).due("alike(1, 1)", true).due("alike(2, 2)", true);
        sentence(36, NO_TEXT_BOTH);
        Run.each("alike(%, 0)", Run.NO_TEXTS, Run.NO_PLACE, "a");
        Run.each("alike(0, %)", Run.NO_TEXTS, Run.NO_PLACE, "a");
        Run.each("alike(%, %)", Run.NO_TEXTS, Run.NO_PLACE, "a");
        Run.each("alike(1, %)", Run.NO_TEXTS, Run.NO_PLACE, "a");
    }

    private static void names() {
        String empty = "a TEXT without SIGNS is no NAME; 0 of a TEXT without SIGNS";
        name(empty, "", 0);
        String one = "with one SIGN";
        name(one, "a", Run.NONE);
        name(one, "_", Run.NONE);
        name(one, "$", Run.NONE);
        name(one, "\u00a5", Run.NONE);
        name(one, "1", 0);
        name(one, "\0", 0);
        name(one, "\u00ad", 0);
        name(one, " ", 0);
        String first = "the first SIGN has to be START";
        name(first, "1a", 0);
        name(first, "\0a", 0);
        name(first, "\u00ada", 0);
        name(first, "+a", 0);
        name(first, "1 ", 0);
        name(first, "Aa", Run.NONE);
        String other = "each other one PART";
        name(other, "a1_\0\u00ad\u00a3Z\u00aa\u007f", Run.NONE);
        name(other, "a\b\016\033", Run.NONE);
        name(other, "ab c+", 2);
        name(other, "a\tb", 1);
        name(other, "a\034", 1);
        name(other, "a.", 1);
        name(other, "a\u00b2", 1);
        name(other, "a\u00a0", 1);
        String thirty = "with 30 SIGNS";
        name(thirty, A30, Run.NONE);
        name(thirty, "a" + "1".repeat(29), Run.NONE);
        name(thirty, A29 + "+", 29);
        name(thirty, "1".repeat(30), 0);
    }

    private static void name(String words, String signs, int fault) {
        sentence(37, "Returns whether it is a NAME: " + words);
        Run.of("", signs).due("isName(1)", fault == Run.NONE).due("house(4)", fault == Run.NONE ? 1 : 0);
        sentence(38, "Returns the first PLACE at which the SIGN is not let in a NAME: " + words);
        Run.of("", signs).due("fault(1)", fault);
    }

    private static void namesThrow() {
        sentence(37, NO_TEXT);
        Run.each("isName(%)", Run.NO_TEXTS, Run.NO_PLACE, "a", "b", "c");
        sentence(38, NO_TEXT);
        Run.each("fault(%)", Run.NO_TEXTS, Run.NO_PLACE, "a", "b", "c");
    }
}
