/** Promises 28 to 38: what is asked of texts, but for their pieces. */
public final class TextsTest {

    private static final int[] NO_TEXTS = {-1, 3, Integer.MIN_VALUE, Integer.MAX_VALUE};
    private static final int[] NO_QUESTIONS = {-1, 14, Integer.MIN_VALUE, Integer.MAX_VALUE};

    private static final Check c = new Check();

    public static void main(String[] args) {
        length();
        sign();
        signs();
        kindsOf();
        count();
        countKind();
        isAll();
        first();
        alike();
        names();
        askingIsNoAct();
        c.end();
    }

    private static void length() {
        c.promise(28);
        Kindcutter x = Check.with("abc");
        Check.set(x, 2, Check.times(30, 9));
        c.due("length(0)", x.length(0), 3);
        c.due("length(1)", x.length(1), 0);
        c.due("length(2)", x.length(2), 30);
        for (int no : NO_TEXTS) {
            c.throwsIt("length(" + no + ")", x, Check.NO_PLACE, () -> x.length(no));
        }
    }

    private static void sign() {
        c.promise(29);
        Kindcutter x = Check.with(0, 128, 255);
        c.due("sign(0, 0)", x.sign(0, 0), 0);
        c.due("sign(0, 1)", x.sign(0, 1), 128);
        c.due("sign(0, 2)", x.sign(0, 2), 255);
        for (int no : NO_TEXTS) {
            c.throwsIt("sign(" + no + ", 0)", x, Check.NO_PLACE, () -> x.sign(no, 0));
            c.throwsIt("sign(0, " + no + ")", x, Check.NO_PLACE, () -> x.sign(0, no));
        }
        c.throwsIt("sign(1, 0)", x, Check.NO_PLACE, () -> x.sign(1, 0));
    }

    private static void signs() {
        c.promise(30);
        Kindcutter x = Check.with(255, 0, 10);
        Check.set(x, 1, 7);
        c.due("signs(0)", x.signs(0), "255 0 10");
        c.due("signs(1)", x.signs(1), "7");
        c.due("signs(2)", x.signs(2), "");
        for (int no : NO_TEXTS) {
            c.throwsIt("signs(" + no + ")", x, Check.NO_PLACE, () -> x.signs(no));
        }
    }

    private static void kindsOf() {
        c.promise(31);
        Kindcutter x = Check.with(187, 0, 65, 255);
        Check.set(x, 1, 50);
        c.due("kindsOf(0)", x.kindsOf(0), "30 15 1 2");
        c.due("kindsOf(1)", x.kindsOf(1), "9");
        c.due("kindsOf(2)", x.kindsOf(2), "");
        for (int no : NO_TEXTS) {
            c.throwsIt("kindsOf(" + no + ")", x, Check.NO_PLACE, () -> x.kindsOf(no));
        }
    }

    private static void count() {
        c.promise(32);
        Kindcutter x = Check.with("a1 a\t1a");
        c.due("count(0, 0)", x.count(0, 0), 7);
        c.due("count(0, 1)", x.count(0, 1), 3);
        c.due("count(0, 2)", x.count(0, 2), 2);
        c.due("count(0, 6)", x.count(0, 6), 0);
        c.due("count(0, 7)", x.count(0, 7), 2);
        c.due("count(0, 13)", x.count(0, 13), 0);
        c.due("count(1, 0)", x.count(1, 0), 0);
        x.cut(0, 0, 2);
        c.due("count of those that stay", x.count(0, 0), 2);
        for (int no : NO_TEXTS) {
            c.throwsIt("count(" + no + ", 0)", x, Check.NO_PLACE, () -> x.count(no, 0));
            c.throwsIt("count(" + no + ", 14)", x, Check.NO_PLACE, () -> x.count(no, 14));
        }
        for (int no : NO_QUESTIONS) {
            c.throwsIt("count(0, " + no + ")", x, Check.NO_VALUE, () -> x.count(0, no));
        }
    }

    private static void countKind() {
        c.promise(33);
        Kindcutter x = Check.with("a+a-A");
        c.due("countKind(0, 2)", x.countKind(0, 2), 2);
        c.due("countKind(0, 1)", x.countKind(0, 1), 1);
        c.due("countKind(0, 30)", x.countKind(0, 30), 0);
        c.due("countKind(0, 0)", x.countKind(0, 0), 0);
        c.due("countKind(1, 2)", x.countKind(1, 2), 0);
        x.cut(0, 0, 2);
        c.due("countKind of those that stay", x.countKind(0, 2), 1);
        Check.set(x, 1, Check.times(30, 97));
        c.due("countKind of 30", x.countKind(1, 2), 30);
        for (int no : NO_TEXTS) {
            c.throwsIt("countKind(" + no + ", 1)", x, Check.NO_PLACE, () -> x.countKind(no, 1));
            c.throwsIt("countKind(" + no + ", 31)", x, Check.NO_PLACE, () -> x.countKind(no, 31));
        }
        for (int no : new int[] {-1, 31, Integer.MIN_VALUE, Integer.MAX_VALUE}) {
            c.throwsIt("countKind(0, " + no + ")", x, Check.NO_VALUE, () -> x.countKind(0, no));
        }
    }

    private static void isAll() {
        c.promise(34);
        Kindcutter x = Check.with("ab1");
        c.due("isAll(0, 3)", x.isAll(0, 3), true);
        c.due("isAll(0, 1)", x.isAll(0, 1), false);
        c.due("isAll(0, 2)", x.isAll(0, 2), false);
        c.due("isAll(0, 6)", x.isAll(0, 6), false);
        c.due("isAll(1, 6)", x.isAll(1, 6), true);
        Check.set(x, 1, Check.times(30, 48));
        c.due("isAll of 30", x.isAll(1, 2), true);
        for (int no : NO_TEXTS) {
            c.throwsIt("isAll(" + no + ", 0)", x, Check.NO_PLACE, () -> x.isAll(no, 0));
            c.throwsIt("isAll(" + no + ", 14)", x, Check.NO_PLACE, () -> x.isAll(no, 14));
        }
        for (int no : NO_QUESTIONS) {
            c.throwsIt("isAll(0, " + no + ")", x, Check.NO_VALUE, () -> x.isAll(0, no));
            c.throwsIt("isAll(2, " + no + ")", x, Check.NO_VALUE, () -> x.isAll(2, no));
        }
    }

    private static void first() {
        c.promise(35);
        Kindcutter x = Check.with("1a2b3");
        c.due("first(0, 2, false)", x.first(0, 2, false), 0);
        c.due("first(0, 2, true)", x.first(0, 2, true), 4);
        c.due("first(0, 1, false)", x.first(0, 1, false), 1);
        c.due("first(0, 1, true)", x.first(0, 1, true), 3);
        c.due("first(0, 7, false)", x.first(0, 7, false), -1);
        c.due("first(0, 7, true)", x.first(0, 7, true), -1);
        c.due("first(1, 0, false)", x.first(1, 0, false), -1);
        for (int no : NO_TEXTS) {
            c.throwsIt("first(" + no + ", 0, true)", x, Check.NO_PLACE, () -> x.first(no, 0, true));
            c.throwsIt("first(" + no + ", 14, true)", x, Check.NO_PLACE,
                () -> x.first(no, 14, true));
        }
        for (int no : NO_QUESTIONS) {
            c.throwsIt("first(0, " + no + ", false)", x, Check.NO_VALUE,
                () -> x.first(0, no, false));
        }
    }

    private static void alike() {
        c.promise(36);
        Kindcutter x = Check.with("aB1");
        Check.set(x, 1, 'z', 'Y', '9');
        c.due("alike(0, 1)", x.alike(0, 1), true);
        c.due("alike(0, 0)", x.alike(0, 0), true);
        c.due("alike(0, 2)", x.alike(0, 2), false);
        x.put(1, 2, 'x');
        c.due("alike with another kind", x.alike(0, 1), false);
        x.put(1, 2, '0');
        x.put(1, 0, '0');
        c.due("alike with another kind at first", x.alike(0, 1), false);
        x.drop(1, 2);
        c.due("alike(0, 1) of a front", x.alike(0, 1), false);
        c.due("alike(1, 0) of a front", x.alike(1, 0), false);
        x.clear(0);
        c.due("alike of none", x.alike(0, 2), true);
        for (int no : NO_TEXTS) {
            c.throwsIt("alike(" + no + ", 0)", x, Check.NO_PLACE, () -> x.alike(no, 0));
            c.throwsIt("alike(0, " + no + ")", x, Check.NO_PLACE, () -> x.alike(0, no));
        }
    }

    private static void names() {
        name("", false, 0);
        name("a", true, -1);
        name("_", true, -1);
        name("$1", true, -1);
        name("a1_\0\u00ad\u00a3Z", true, -1);
        name("1a", false, 0);
        name("\0a", false, 0);
        name("\u00ada", false, 0);
        name("ab c", false, 2);
        name("a\tb", false, 1);
        name("a.", false, 1);
        name("a\u00b2", false, 1);
        name("aaaaaaaaaaaaaaaaaaaaaaaaaaaaaa", true, -1);
        name("aaaaaaaaaaaaaaaaaaaaaaaaaaaaa+", false, 29);
        Kindcutter x = new Kindcutter();
        for (int no : NO_TEXTS) {
            c.promise(37);
            c.throwsIt("isName(" + no + ")", x, Check.NO_PLACE, () -> x.isName(no));
            c.promise(38);
            c.throwsIt("fault(" + no + ")", x, Check.NO_PLACE, () -> x.fault(no));
        }
    }

    private static void name(String signs, boolean isName, int fault) {
        Kindcutter x = Check.with(signs);
        c.promise(37);
        c.due("isName of " + x.signs(0), x.isName(0), isName);
        c.promise(38);
        c.due("fault of " + x.signs(0), x.fault(0), fault);
    }

    private static void askingIsNoAct() {
        Kindcutter x = Check.with("a1 +");
        long before = x.digest();
        x.length(0);
        x.sign(0, 0);
        x.signs(0);
        x.kindsOf(0);
        x.count(0, 1);
        x.countKind(0, 2);
        x.isAll(0, 1);
        x.first(0, 1, true);
        x.alike(0, 1);
        x.isName(0);
        x.fault(0);
        x.sort(0, 0, 1);
        x.longest(0, 0);
        x.pieces(0);
        x.piece(0, 0, 0);
        x.sorts(0);
        x.cuts(0);
        x.back(0);
        x.fewest(0);
        x.parted(0, 2);
        c.promise(48);
        c.due("digest", x.digest(), before);
    }
}
