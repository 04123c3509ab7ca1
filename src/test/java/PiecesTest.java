/** Promises 39 to 47: the pieces of texts. */
public final class PiecesTest {

    private static final int[] NO_TEXTS = {-1, 3, Integer.MIN_VALUE, Integer.MAX_VALUE};

    private static final Check c = new Check();

    public static void main(String[] args) {
        sort();
        longest();
        rows();
        piece();
        parted();
        wrongTexts();
        c.end();
    }

    private static void sort() {
        c.promise(39);
        sortOf("a", 0);
        sortOf("a1", 0);
        sortOf("$", 0);
        sortOf("a\0", 0);
        sortOf("1", 1);
        sortOf("12", 1);
        sortOf("1a", -1);
        sortOf(" ", 2);
        sortOf(" \t\r\u001c", 2);
        sortOf("\u00a0", 4);
        sortOf(" \u00a0", -1);
        sortOf("+", 3);
        sortOf("+<=\u00d7", 3);
        sortOf("+-", -1);
        sortOf("-", 4);
        sortOf("--", -1);
        sortOf("\0", 4);
        sortOf("\0\0", -1);
        sortOf("\0a", -1);
        sortOf("a b", -1);
        Kindcutter x = Check.with("1a +");
        c.due("sort(0, 1, 2)", x.sort(0, 1, 2), 0);
        c.due("sort(0, 3, 4)", x.sort(0, 3, 4), 3);
        c.due("sort(0, 0, 2)", x.sort(0, 0, 2), -1);
        c.throwsIt("sort(0, -1, 1)", x, Check.NO_PLACE, () -> x.sort(0, -1, 1));
        c.throwsIt("sort(0, 1, 1)", x, Check.NO_PLACE, () -> x.sort(0, 1, 1));
        c.throwsIt("sort(0, 2, 1)", x, Check.NO_PLACE, () -> x.sort(0, 2, 1));
        c.throwsIt("sort(0, 3, 5)", x, Check.NO_PLACE, () -> x.sort(0, 3, 5));
        c.throwsIt("sort(0, 4, 5)", x, Check.NO_PLACE, () -> x.sort(0, 4, 5));
        c.throwsIt("sort(1, 0, 0)", x, Check.NO_PLACE, () -> x.sort(1, 0, 0));
        c.throwsIt("sort(0, MIN, MAX)", x, Check.NO_PLACE,
            () -> x.sort(0, Integer.MIN_VALUE, Integer.MAX_VALUE));
        c.throwsIt("sort(0, 0, MAX)", x, Check.NO_PLACE, () -> x.sort(0, 0, Integer.MAX_VALUE));
    }

    private static void sortOf(String signs, int want) {
        Kindcutter x = Check.with(signs);
        c.due("sort of " + x.signs(0), x.sort(0, 0, signs.length()), want);
    }

    private static void longest() {
        c.promise(40);
        Kindcutter x = Check.with("a1\0 \t12a++-");
        int[] want = {3, 1, 1, 2, 1, 2, 1, 1, 2, 1, 1};
        for (int place = 0; place < want.length; place++) {
            c.due("longest(0, " + place + ")", x.longest(0, place), want[place]);
        }
        for (int no : new int[] {-1, 11, Integer.MIN_VALUE, Integer.MAX_VALUE}) {
            c.throwsIt("longest(0, " + no + ")", x, Check.NO_PLACE, () -> x.longest(0, no));
        }
        Check.set(x, 1, Check.times(30, 43));
        c.due("longest of 30", x.longest(1, 0), 30);
        c.due("longest of the last one", x.longest(1, 29), 1);
    }

    private static void rows() {
        row("", "", 0);
        row("a", "0", 0);
        row("12a3", "1 0", 1 << 2);
        row("a 1+", "0 2 1 3", 1 << 1 | 1 << 2 | 1 << 3);
        row("--", "4 4", 1 << 1);
        row("\0\0a\0 1\0", "4 4 0 2 1 4", 1 << 1 | 1 << 2 | 1 << 4 | 1 << 5 | 1 << 6);
        row("aaaaaaaaaaaaaaaaaaaaaaaaaaaaa ", "0 2", 1 << 29);
        row("                              ", "2", 0);
    }

    /** Of each text the row, the back row and the fewest pieces are the same. */
    private static void row(String signs, String sorts, int cuts) {
        Kindcutter x = Check.with(signs);
        int pieces = sorts.isEmpty() ? 0 : sorts.split(" ").length;
        c.promise(41);
        c.due("pieces of " + x.signs(0), x.pieces(0), pieces);
        c.promise(43);
        c.due("sorts of " + x.signs(0), x.sorts(0), sorts);
        c.promise(44);
        c.due("cuts of " + x.signs(0), x.cuts(0), cuts);
        c.promise(45);
        c.due("back of " + x.signs(0), x.back(0), cuts);
        c.promise(46);
        c.due("fewest of " + x.signs(0), x.fewest(0), pieces);
        c.promise(47);
        c.due("parted of " + x.signs(0), x.parted(0, cuts), pieces);
    }

    private static void piece() {
        c.promise(42);
        Kindcutter x = Check.with("12ab1  +-");
        int[][] want = {{0, 2, 1}, {2, 3, 0}, {5, 2, 2}, {7, 1, 3}, {8, 1, 4}};
        for (int k = 0; k < want.length; k++) {
            for (int what = 0; what <= 2; what++) {
                c.due("piece(0, " + k + ", " + what + ")", x.piece(0, k, what), want[k][what]);
            }
        }
        for (int no : NO_TEXTS) {
            c.throwsIt("piece(" + no + ", 0, 0)", x, Check.NO_PLACE, () -> x.piece(no, 0, 0));
            c.throwsIt("piece(" + no + ", 0, 3)", x, Check.NO_PLACE, () -> x.piece(no, 0, 3));
        }
        for (int no : new int[] {-1, 5, Integer.MIN_VALUE, Integer.MAX_VALUE}) {
            c.throwsIt("piece(0, " + no + ", 0)", x, Check.NO_PLACE, () -> x.piece(0, no, 0));
            c.throwsIt("piece(0, " + no + ", 3)", x, Check.NO_PLACE, () -> x.piece(0, no, 3));
        }
        for (int no : NO_TEXTS) {
            c.throwsIt("piece(0, 0, " + no + ")", x, Check.NO_VALUE, () -> x.piece(0, 0, no));
        }
        c.throwsIt("piece(1, 0, 0)", x, Check.NO_PLACE, () -> x.piece(1, 0, 0));
    }

    private static void parted() {
        c.promise(47);
        Kindcutter x = Check.with("ab1 ");
        c.due("parted(0, 8)", x.parted(0, 8), 2);
        c.due("parted(0, 10)", x.parted(0, 10), 3);
        c.due("parted(0, 14)", x.parted(0, 14), 4);
        c.due("parted(0, 0)", x.parted(0, 0), -1);
        c.due("parted(0, 4)", x.parted(0, 4), -1);
        c.due("parted(1, 0)", x.parted(1, 0), 0);
        Check.set(x, 2, '1', 'a', ' ');
        c.due("parted(2, 4), the first one is no piece", x.parted(2, 4), -1);
        c.due("parted(2, 2), the last one is no piece", x.parted(2, 2), -1);
        c.due("parted(2, 6)", x.parted(2, 6), 3);
        Check.set(x, 2, Check.times(30, 45));
        c.due("parted of 30", x.parted(2, (1 << 30) - 2), 30);
        for (int no : new int[] {1, 9, 16, 24, 1 << 30, -1, -8, Integer.MIN_VALUE,
                Integer.MIN_VALUE | 8, Integer.MAX_VALUE}) {
            c.throwsIt("parted(0, " + no + ")", x, Check.NO_VALUE, () -> x.parted(0, no));
            c.throwsIt("parted(1, " + no + ")", x, Check.NO_VALUE, () -> x.parted(1, no));
        }
        c.throwsIt("parted(2, 1 << 30)", x, Check.NO_VALUE, () -> x.parted(2, 1 << 30));
        x.fill(1, 48, 1);
        c.due("parted of one sign", x.parted(1, 0), 1);
        c.throwsIt("parted(1, 1) of one sign", x, Check.NO_VALUE, () -> x.parted(1, 1));
        c.throwsIt("parted(1, 2) of one sign", x, Check.NO_VALUE, () -> x.parted(1, 2));
    }

    private static void wrongTexts() {
        Kindcutter x = Check.with("a1");
        for (int no : NO_TEXTS) {
            c.promise(39);
            c.throwsIt("sort(" + no + ", 0, 1)", x, Check.NO_PLACE, () -> x.sort(no, 0, 1));
            c.promise(40);
            c.throwsIt("longest(" + no + ", 0)", x, Check.NO_PLACE, () -> x.longest(no, 0));
            c.promise(41);
            c.throwsIt("pieces(" + no + ")", x, Check.NO_PLACE, () -> x.pieces(no));
            c.promise(43);
            c.throwsIt("sorts(" + no + ")", x, Check.NO_PLACE, () -> x.sorts(no));
            c.promise(44);
            c.throwsIt("cuts(" + no + ")", x, Check.NO_PLACE, () -> x.cuts(no));
            c.promise(45);
            c.throwsIt("back(" + no + ")", x, Check.NO_PLACE, () -> x.back(no));
            c.promise(46);
            c.throwsIt("fewest(" + no + ")", x, Check.NO_PLACE, () -> x.fewest(no));
            c.promise(47);
            c.throwsIt("parted(" + no + ", 0)", x, Check.NO_PLACE, () -> x.parted(no, 0));
            c.throwsIt("parted(" + no + ", -1)", x, Check.NO_PLACE, () -> x.parted(no, -1));
        }
    }
}
