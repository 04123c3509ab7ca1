/** Promises 39 to 47: the pieces of texts; sentence by sentence. */
public final class PiecesTest {

    private static final String NO_TEXT = "Throws IndexOutOfBoundsException if there is no such TEXT";
    private static final String FIRST_NAMED = "If several exceptions apply, the one that is named first";

    private static final String A29 = "a".repeat(29);
    private static final String A30 = "a".repeat(30);
    private static final String SINGLES = "-".repeat(30);

    public static void main(String[] args) {
        sort();
        sortThrows();
        longest();
        rows();
        rowsThrow();
        piece();
        pieceThrows();
        parted();
        partedThrows();
        Tally.end();
    }

    private static void sentence(int promise, String words) {
        Tally.sentence(promise, words);
    }

    private static void sort() {
        String one = "Returns the SORT of a PIECE that is one SIGN";
        sortOf(one, "a", 0);
        sortOf(one, "$", 0);
        sortOf(one, "_", 0);
        sortOf(one, "7", 1);
        sortOf(one, "\034", 2);
        sortOf(one, " ", 2);
        sortOf(one, "+", 3);
        sortOf(one, "\u00f7", 3);
        sortOf(one, "-", 4);
        sortOf(one, "\0", 4);
        sortOf(one, "\u00ad", 4);
        sortOf(one, "\u00a0", 4);
        sortOf(one, "\u00b2", 4);
        String more = "the first one of these SORTS that they can be";
        sortOf(more, "a1", 0);
        sortOf(more, "a\0\u00ad", 0);
        sortOf(more, "12", 1);
        sortOf(more, " \t\r\034", 2);
        sortOf(more, "+<=\u00d7", 3);
        String thirty = "Returns the SORT of 30 SIGNS";
        sortOf(thirty, A30, 0);
        sortOf(thirty, "1".repeat(30), 1);
        sortOf(thirty, " ".repeat(30), 2);
        sortOf(thirty, "+".repeat(30), 3);
        sortOf(thirty, A29 + " ", Run.NONE);
        sortOf(thirty, "-" + A29, Run.NONE);
        String none = "NONE, if these are no PIECE";
        sortOf(none, "1a", Run.NONE);
        sortOf(none, "a ", Run.NONE);
        sortOf(none, "a b", Run.NONE);
        sortOf(none, " \u00a0", Run.NONE);
        sortOf(none, "+-", Run.NONE);
        sortOf(none, "--", Run.NONE);
        sortOf(none, "\0\0", Run.NONE);
        sortOf(none, "\0a", Run.NONE);
        sortOf(none, "1 ", Run.NONE);
        sentence(39, "the SIGNS there: from a PLACE up to another one, without that");
        Run.of("1a +").due("sort(0, 0, 1)", 1).due("sort(0, 1, 2)", 0).due("sort(0, 2, 3)", 2)
            .due("sort(0, 3, 4)", 3).due("sort(0, 0, 2)", Run.NONE).due("sort(0, 1, 3)", Run.NONE)
            .due("sort(0, 0, 4)", Run.NONE);
        Run.of("1" + A29).due("sort(0, 1, 30)", 0).due("sort(0, 29, 30)", 0);
    }

    private static void sortOf(String words, String signs, int want) {
        sentence(39, words);
        Run.of("", signs).due("sort(1, 0, " + signs.length() + ")", want);
    }

    private static void sortThrows() {
        sentence(39, NO_TEXT);
        Run.each("sort(%, 0, 1)", Run.NO_TEXTS, Run.NO_PLACE, "a", "b", "c");
        sentence(39, "or not 0 <= from < to <= how many SIGNS it has");
        Run.each("sort(0, %, 2)", new String[] {"-1", "2", "3", "MIN", "MAX"}, Run.NO_PLACE, "abc");
        Run.each("sort(0, 1, %)", new String[] {"1", "0", "-1", "4", "MIN", "MAX"}, Run.NO_PLACE, "abc");
        Run.each("sort(0, %, %)", new String[] {"-1", "0", "3", "4", "MIN", "MAX"}, Run.NO_PLACE, "abc");
        Run.each("sort(0, 0, %)", new String[] {"0", "1", "-1", "MAX"}, Run.NO_PLACE, "", "a");
        Run.each("sort(0, 0, %)", new String[] {"31", "MAX"}, Run.NO_PLACE, A30);
        Run.each("sort(0, 30, %)", new String[] {"30", "31"}, Run.NO_PLACE, A30);
        Run.of("abc").due("sort(0, MIN, MAX)", Run.NO_PLACE).due("sort(0, MAX, MIN)", Run.NO_PLACE);
    }

    private static void longest() {
        sentence(40, "Returns how many SIGNS the longest PIECE has that begins there");
        String signs = "a1\0 \t12a++-";
        int[] want = {3, 1, 1, 2, 1, 2, 1, 1, 2, 1, 1};
        for (int place = 0; place < want.length; place++) {
            Run.of(signs).due("longest(0, " + place + ")", want[place]);
        }
        sentence(40, "a TEXT with one SIGN, with 30");
        Run.of("a", A30, SINGLES).due("longest(0, 0)", 1).due("longest(1, 0)", 30)
            .due("longest(1, 1)", 29).due("longest(1, 29)", 1).due("longest(2, 0)", 1)
            .due("longest(2, 29)", 1);
        Run.of(A29 + " ").due("longest(0, 0)", 29).due("longest(0, 29)", 1);
        Run.of("abc").due("cut(0, 0, 2)", 2).due("longest(0, 0)", 2).due("longest(0, 1)", 1);
        sentence(40, NO_TEXT + ", or no such PLACE in it");
        Run.each("longest(%, 0)", Run.NO_TEXTS, Run.NO_PLACE, "a", "b", "c");
        Run.each("longest(0, %)", new String[] {"-1", "0", "MIN", "MAX"}, Run.NO_PLACE, "", "a");
        Run.each("longest(0, %)", new String[] {"-1", "1", "MIN", "MAX"}, Run.NO_PLACE, "a", "bc");
        Run.each("longest(0, %)", new String[] {"-1", "30", "31", "MIN", "MAX"}, Run.NO_PLACE, A30);
    }

    private static void rows() {
        String empty = "a TEXT without SIGNS: no PIECE";
        row(empty, "", "", 0);
        String one = "a TEXT with one SIGN";
        row(one, "a", "0", 0);
        row(one, "-", "4", 0);
        String more = "each is the longest that begins there";
        row(more, "12a3", "1 0", 1 << 2);
        row(more, "a12", "0", 0);
        row(more, "a 1+", "0 2 1 3", 1 << 1 | 1 << 2 | 1 << 3);
        row(more, "--", "4 4", 1 << 1);
        row(more, "ab\0\0", "0", 0);
        row(more, "\0\0a\0 1\0", "4 4 0 2 1 4", 1 << 1 | 1 << 2 | 1 << 4 | 1 << 5 | 1 << 6);
        row(more, " \u00a0 ", "2 4 2", 1 << 1 | 1 << 2);
        row(more, "+-+=", "3 4 3", 1 << 1 | 1 << 2);
        String thirty = "a TEXT with 30 SIGNS";
        row(thirty, A30, "0", 0);
        row(thirty, " ".repeat(30), "2", 0);
        row(thirty, A29 + " ", "0 2", 1 << 29);
        row(thirty, " " + A29, "2 0", 1 << 1);
        row(thirty, SINGLES, "4" + " 4".repeat(29), (1 << 30) - 2);
    }

    /** Of each text the row, the back row and the fewest pieces are the same. */
    private static void row(String words, String signs, String sorts, int cuts) {
        int pieces = sorts.isEmpty() ? 0 : sorts.split(" ").length;
        sentence(41, "Returns how many PIECES its ROW has: " + words);
        Run.of("+", signs).due("pieces(1)", pieces);
        sentence(43, "Returns the SORTS, with \" \" between; \"\" without any: " + words);
        Run.of("+", signs).due("sorts(1)", sorts);
        sentence(44, "Returns the set of its CUTS (but 0): " + words);
        Run.of("+", signs).due("cuts(1)", cuts);
        sentence(45, "Returns the set of the CUTS of its BACK ROW: " + words);
        Run.of("+", signs).due("back(1)", cuts);
        sentence(46, "Returns how many PIECES at least: " + words);
        Run.of("+", signs).due("fewest(1)", pieces);
        sentence(47, "Returns how many PIECES it has, cut just at its CUTS: " + words);
        Run.of("+", signs).due("parted(1, " + cuts + ")", pieces);
        sentence(50, "Returns whether all of this is so: " + words);
        Run.of("+", signs, signs).due("isSound()", true);
    }

    private static void rowsThrow() {
        String[] calls = {"pieces", null, "sorts", "cuts", "back", "fewest"};
        for (int i = 0; i < calls.length; i++) {
            if (calls[i] != null) {
                sentence(41 + i, NO_TEXT);
                Run.each(calls[i] + "(%)", Run.NO_TEXTS, Run.NO_PLACE, "a1", "b", "c+");
            }
        }
    }

    private static void piece() {
        sentence(42, "0 the PLACE at which it begins, 1 how many SIGNS it has, 2 its SORT");
        int[][] want = {{0, 2, 1}, {2, 3, 0}, {5, 2, 2}, {7, 1, 3}, {8, 1, 4}};
        for (int k = 0; k < want.length; k++) {
            for (int what = 0; what <= 2; what++) {
                Run.of("a", "12ab1  +-").due("piece(1, " + k + ", " + what + ")", want[k][what]);
            }
        }
        sentence(42, "the only PIECE, with one SIGN, with 30");
        Run.of("-", A30).due("piece(0, 0, 0)", 0).due("piece(0, 0, 1)", 1).due("piece(0, 0, 2)", 4)
            .due("piece(1, 0, 0)", 0).due("piece(1, 0, 1)", 30).due("piece(1, 0, 2)", 0);
        sentence(42, "the first one and the last one of 30 PIECES");
        Run.of(SINGLES).due("piece(0, 0, 0)", 0).due("piece(0, 0, 1)", 1).due("piece(0, 29, 0)", 29)
            .due("piece(0, 29, 1)", 1).due("piece(0, 29, 2)", 4);
    }

    private static void pieceThrows() {
        sentence(42, NO_TEXT + ", or no such PIECE");
        Run.each("piece(%, 0, 0)", Run.NO_TEXTS, Run.NO_PLACE, "a", "b", "c");
        Run.each("piece(0, %, 0)", new String[] {"-1", "0", "MIN", "MAX"}, Run.NO_PLACE, "", "a");
        Run.each("piece(0, %, 1)", new String[] {"-1", "1", "MIN", "MAX"}, Run.NO_PLACE, "ab");
        Run.each("piece(0, %, 2)", new String[] {"-1", "2", "3", "MIN", "MAX"}, Run.NO_PLACE, "1ab");
        Run.each("piece(0, %, 0)", new String[] {"-1", "30", "31", "MIN", "MAX"}, Run.NO_PLACE, SINGLES);
        sentence(42, "Throws IllegalArgumentException if what is not 0 to 2");
        Run.each("piece(0, 0, %)", new String[] {"-1", "3", "MIN", "MAX"}, Run.NO_VALUE, "a");
        Run.each("piece(0, 29, %)", new String[] {"-1", "3", "MIN", "MAX"}, Run.NO_VALUE, SINGLES);
        sentence(42, FIRST_NAMED);
        Run.each("piece(%, 0, 3)", Run.NO_TEXTS, Run.NO_PLACE, "a");
        Run.each("piece(0, %, 3)", new String[] {"-1", "1", "MIN", "MAX"}, Run.NO_PLACE, "a");
        Run.each("piece(1, 0, %)", new String[] {"-1", "3", "MIN", "MAX"}, Run.NO_PLACE, "a");
    }

    private static void parted() {
        sentence(47, "if it is cut just at these PLACES, and all that comes of that are PIECES");
        Run.of("ab1 ").due("parted(0, 8)", 2).due("parted(0, 10)", 3).due("parted(0, 12)", 3)
            .due("parted(0, 14)", 4);
        Run.of(A30).due("parted(0, 0)", 1).due("parted(0, 2)", 2).due("parted(0, 536870912)", 2)
            .due("parted(0, 1073741822)", 30);
        sentence(47, "otherwise NONE");
        Run.of("ab1 ").due("parted(0, 0)", Run.NONE).due("parted(0, 4)", Run.NONE)
            .due("parted(0, 2)", Run.NONE).due("parted(0, 6)", Run.NONE);
        Run.of("1a ").due("parted(0, 4)", Run.NONE).due("parted(0, 2)", Run.NONE).due("parted(0, 6)", 3);
        Run.of(SINGLES).due("parted(0, 0)", Run.NONE).due("parted(0, 1073741820)", Run.NONE)
            .due("parted(0, 536870910)", Run.NONE).due("parted(0, 1073741822)", 30);
        sentence(47, "(0 of a TEXT without SIGNS)");
        Run.of("", "a").due("parted(0, 0)", 0).due("parted(2, 0)", 0);
        sentence(47, "a TEXT with one SIGN");
        Run.of("-", "a").due("parted(0, 0)", 1).due("parted(1, 0)", 1);
    }

    private static void partedThrows() {
        sentence(47, NO_TEXT);
        Run.each("parted(%, 0)", Run.NO_TEXTS, Run.NO_PLACE, "a", "b", "c");
        sentence(47, "Throws IllegalArgumentException if set is below 0");
        Run.of("aa").due("parted(0, 0)", 1);
        Run.each("parted(0, %)", new String[] {"-1", "-2", "MIN", "-2147483646"}, Run.NO_VALUE, "aa");
        Run.each("parted(0, %)", new String[] {"-1", "-2", "MIN", "-2147483646"}, Run.NO_VALUE, A30);
        Run.each("parted(1, %)", new String[] {"-1", "-2", "MIN"}, Run.NO_VALUE, "aa");
        sentence(47, "or has a number that is not 1 to one less than how many SIGNS the TEXT has");
        Run.of("aa", "aaa").due("parted(0, 2)", 2).due("parted(1, 4)", 2).due("parted(1, 6)", 3);
        Run.each("parted(0, %)", new String[] {"1", "3", "4", "5", "6", "1073741824", "MAX"},
            Run.NO_VALUE, "aa");
        Run.each("parted(0, %)", new String[] {"1", "7", "8", "10", "536870912"}, Run.NO_VALUE, "aaa");
        Run.each("parted(0, %)", new String[] {"1", "2", "3", "MAX"}, Run.NO_VALUE, "a", "aa");
        Run.each("parted(0, %)", new String[] {"1", "2", "3", "MAX"}, Run.NO_VALUE, "", "aa");
        Run.each("parted(0, %)", new String[] {"1", "1073741823", "1073741824", "1610612736", "MAX"},
            Run.NO_VALUE, A30);
        Run.of(A29).due("parted(0, 268435456)", 2).due("parted(0, 536870912)", Run.NO_VALUE);
        sentence(47, FIRST_NAMED);
        Run.each("parted(%, -1)", Run.NO_TEXTS, Run.NO_PLACE, "a");
        Run.each("parted(3, %)", new String[] {"-1", "1", "MIN", "MAX"}, Run.NO_PLACE, "a");
    }
}
