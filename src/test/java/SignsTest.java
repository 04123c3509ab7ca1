/** Promises 16 to 27: what is asked of signs. */
public final class SignsTest {

    private static final int[] NO_SIGNS = {-1, 256, Integer.MIN_VALUE, Integer.MAX_VALUE};
    private static final int[] NO_KINDS = {-1, 31, Integer.MIN_VALUE, Integer.MAX_VALUE};
    private static final int[] NO_QUESTIONS = {-1, 14, Integer.MIN_VALUE, Integer.MAX_VALUE};

    private static final Check c = new Check();
    private static final Kindcutter x = new Kindcutter();

    public static void main(String[] args) {
        kind();
        ask();
        all();
        nth();
        next();
        run();
        ofKind();
        ofQuestion();
        kinds();
        both();
        within();
        differ();
        c.end();
    }

    private static void kind() {
        c.promise(16);
        for (int sign = 0; sign < 256; sign++) {
            c.due("kind(" + sign + ")", x.kind(sign), PlainModel.KIND[sign]);
        }
        c.due("kind(215)", x.kind(215), 25);
        c.due("kind(181)", x.kind(181), 2);
        c.due("kind(173)", x.kind(173), 16);
        c.due("kind(160)", x.kind(160), 12);
        for (int no : NO_SIGNS) {
            c.throwsIt("kind(" + no + ")", x, Check.NO_VALUE, () -> x.kind(no));
        }
    }

    private static void ask() {
        c.promise(17);
        for (int sign = 0; sign < 256; sign++) {
            for (int question = 0; question < 14; question++) {
                c.due("ask(" + sign + ", " + question + ")", x.ask(sign, question),
                    PlainModel.isSo(sign, question));
            }
        }
        c.due("ask(13, 7)", x.ask(13, 7), true);
        c.due("ask(14, 7)", x.ask(14, 7), false);
        c.due("ask(27, 13)", x.ask(27, 13), true);
        c.due("ask(28, 13)", x.ask(28, 13), false);
        c.due("ask(61, 10)", x.ask(61, 10), false);
        c.due("ask(62, 10)", x.ask(62, 10), true);
        for (int no : NO_SIGNS) {
            c.throwsIt("ask(" + no + ", 0)", x, Check.NO_VALUE, () -> x.ask(no, 0));
        }
        for (int no : NO_QUESTIONS) {
            c.throwsIt("ask(0, " + no + ")", x, Check.NO_VALUE, () -> x.ask(0, no));
        }
    }

    private static void all() {
        c.promise(18);
        for (int sign = 0; sign < 256; sign++) {
            int want = 0;
            for (int question = 0; question < 14; question++) {
                want += PlainModel.isSo(sign, question) ? 1 << question : 0;
            }
            c.due("all(" + sign + ")", x.all(sign), want);
        }
        c.due("all(65)", x.all(65), 1 + 2 + 8 + 16 + 2048 + 4096);
        c.due("all(33)", x.all(33), 1);
        for (int no : NO_SIGNS) {
            c.throwsIt("all(" + no + ")", x, Check.NO_VALUE, () -> x.all(no));
        }
    }

    private static void nth() {
        c.promise(19);
        c.due("nth(1, 0)", x.nth(1, 0), 65);
        c.due("nth(1, 25)", x.nth(1, 25), 90);
        c.due("nth(1, 26)", x.nth(1, 26), 192);
        c.due("nth(5, 1)", x.nth(5, 1), 186);
        c.due("nth(5, 2)", x.nth(5, 2), -1);
        c.due("nth(15, 0)", x.nth(15, 0), 0);
        c.due("nth(15, 64)", x.nth(15, 64), 159);
        c.due("nth(15, 65)", x.nth(15, 65), -1);
        c.due("nth(2, 255)", x.nth(2, 255), -1);
        c.due("nth(2, 58)", x.nth(2, 58), 255);
        c.due("nth(30, 0)", x.nth(30, 0), 187);
        c.due("nth(3, 0)", x.nth(3, 0), -1);
        for (int no : NO_KINDS) {
            c.throwsIt("nth(" + no + ", 0)", x, Check.NO_VALUE, () -> x.nth(no, 0));
        }
        for (int no : NO_SIGNS) {
            c.throwsIt("nth(1, " + no + ")", x, Check.NO_VALUE, () -> x.nth(1, no));
        }
    }

    private static void next() {
        c.promise(20);
        c.due("next(2, 0, true)", x.next(2, 0, true), 48);
        c.due("next(2, 48, true)", x.next(2, 48, true), 48);
        c.due("next(2, 57, true)", x.next(2, 57, true), 57);
        c.due("next(2, 58, true)", x.next(2, 58, true), -1);
        c.due("next(2, 48, false)", x.next(2, 48, false), 58);
        c.due("next(5, 255, true)", x.next(5, 255, true), 255);
        c.due("next(5, 248, false)", x.next(5, 248, false), -1);
        c.due("next(6, 255, false)", x.next(6, 255, false), 255);
        for (int no : NO_QUESTIONS) {
            c.throwsIt("next(" + no + ", 0, true)", x, Check.NO_VALUE, () -> x.next(no, 0, true));
        }
        for (int no : NO_SIGNS) {
            c.throwsIt("next(0, " + no + ", true)", x, Check.NO_VALUE, () -> x.next(0, no, true));
        }
    }

    private static void run() {
        c.promise(21);
        c.due("run(2, 0)", x.run(2, 0), 48);
        c.due("run(2, 48)", x.run(2, 48), 10);
        c.due("run(2, 58)", x.run(2, 58), 198);
        c.due("run(7, 28)", x.run(7, 28), 5);
        c.due("run(5, 248)", x.run(5, 248), 8);
        c.due("run(6, 255)", x.run(6, 255), 1);
        c.due("run(6, 0)", x.run(6, 0), 256);
        for (int no : NO_QUESTIONS) {
            c.throwsIt("run(" + no + ", 0)", x, Check.NO_VALUE, () -> x.run(no, 0));
        }
        for (int no : NO_SIGNS) {
            c.throwsIt("run(0, " + no + ")", x, Check.NO_VALUE, () -> x.run(0, no));
        }
    }

    private static void ofKind() {
        c.promise(22);
        c.due("ofKind(1, 0, 255)", x.ofKind(1, 0, 255), 26 + 23 + 7);
        c.due("ofKind(1, 90, 192)", x.ofKind(1, 90, 192), 2);
        c.due("ofKind(1, 91, 191)", x.ofKind(1, 91, 191), 0);
        c.due("ofKind(25, 215, 215)", x.ofKind(25, 215, 215), 1);
        c.due("ofKind(0, 0, 255)", x.ofKind(0, 0, 255), 0);
        c.due("ofKind(30, 0, 255)", x.ofKind(30, 0, 255), 1);
        for (int no : NO_KINDS) {
            c.throwsIt("ofKind(" + no + ", 0, 0)", x, Check.NO_VALUE, () -> x.ofKind(no, 0, 0));
        }
        for (int no : NO_SIGNS) {
            c.throwsIt("ofKind(0, " + no + ", 255)", x, Check.NO_VALUE, () -> x.ofKind(0, no, 255));
            c.throwsIt("ofKind(0, 0, " + no + ")", x, Check.NO_VALUE, () -> x.ofKind(0, 0, no));
        }
        c.throwsIt("ofKind(0, 9, 8)", x, Check.NO_VALUE, () -> x.ofKind(0, 9, 8));
    }

    private static void ofQuestion() {
        c.promise(23);
        c.due("ofQuestion(0, 0, 255)", x.ofQuestion(0, 0, 255), 256);
        c.due("ofQuestion(6, 0, 255)", x.ofQuestion(6, 0, 255), 0);
        c.due("ofQuestion(7, 0, 255)", x.ofQuestion(7, 0, 255), 10);
        c.due("ofQuestion(7, 13, 28)", x.ofQuestion(7, 13, 28), 2);
        c.due("ofQuestion(7, 32, 32)", x.ofQuestion(7, 32, 32), 1);
        c.due("ofQuestion(10, 0, 255)", x.ofQuestion(10, 0, 255), 10);
        for (int no : NO_QUESTIONS) {
            c.throwsIt("ofQuestion(" + no + ", 0, 0)", x, Check.NO_VALUE,
                () -> x.ofQuestion(no, 0, 0));
        }
        for (int no : NO_SIGNS) {
            c.throwsIt("ofQuestion(0, " + no + ", 255)", x, Check.NO_VALUE,
                () -> x.ofQuestion(0, no, 255));
            c.throwsIt("ofQuestion(0, 0, " + no + ")", x, Check.NO_VALUE,
                () -> x.ofQuestion(0, 0, no));
        }
        c.throwsIt("ofQuestion(0, 255, 254)", x, Check.NO_VALUE, () -> x.ofQuestion(0, 255, 254));
    }

    private static void kinds() {
        c.promise(24);
        c.due("kinds(0, 31)", x.kinds(0, 31), 1 << 15);
        c.due("kinds(31, 33)", x.kinds(31, 33), 1 << 15 | 1 << 12 | 1 << 24);
        c.due("kinds(187, 187)", x.kinds(187, 187), 1 << 30);
        c.due("kinds(255, 255)", x.kinds(255, 255), 4);
        for (int no : NO_SIGNS) {
            c.throwsIt("kinds(" + no + ", 255)", x, Check.NO_VALUE, () -> x.kinds(no, 255));
            c.throwsIt("kinds(0, " + no + ")", x, Check.NO_VALUE, () -> x.kinds(0, no));
        }
        c.throwsIt("kinds(1, 0)", x, Check.NO_VALUE, () -> x.kinds(1, 0));
    }

    private static void both() {
        c.promise(25);
        for (int kind = 0; kind <= 30; kind++) {
            for (int question = 0; question < 14; question++) {
                int want = 0;
                for (int sign = 0; sign < 256; sign++) {
                    want += PlainModel.KIND[sign] == kind && PlainModel.isSo(sign, question) ? 1 : 0;
                }
                c.due("both(" + kind + ", " + question + ")", x.both(kind, question), want);
            }
        }
        c.due("both(15, 7)", x.both(15, 7), 9);
        c.due("both(25, 10)", x.both(25, 10), 2);
        for (int no : NO_KINDS) {
            c.throwsIt("both(" + no + ", 0)", x, Check.NO_VALUE, () -> x.both(no, 0));
        }
        for (int no : NO_QUESTIONS) {
            c.throwsIt("both(0, " + no + ")", x, Check.NO_VALUE, () -> x.both(0, no));
        }
    }

    /** The pairs as section 2 lists them, beside each with itself, with 0, and 6 with all. */
    private static void within() {
        c.promise(26);
        String listed = " 1-3 1-11 1-12 2-3 2-12 3-12 4-1 4-3 4-11 4-12 5-1 5-3 5-11 5-12 11-12 13-12 ";
        for (int question = 0; question < 14; question++) {
            for (int other = 0; other < 14; other++) {
                boolean want = question == other || other == 0 || question == 6
                    || listed.contains(" " + question + "-" + other + " ");
                c.due("within(" + question + ", " + other + ")", x.within(question, other), want);
            }
        }
        for (int no : NO_QUESTIONS) {
            c.throwsIt("within(" + no + ", 0)", x, Check.NO_VALUE, () -> x.within(no, 0));
            c.throwsIt("within(0, " + no + ")", x, Check.NO_VALUE, () -> x.within(0, no));
        }
    }

    private static void differ() {
        c.promise(27);
        c.due("differ(0, 6, 17)", x.differ(0, 6, 17), 17);
        c.due("differ(7, 9, 0)", x.differ(7, 9, 0), 0);
        c.due("differ(7, 9, 9)", x.differ(7, 9, 9), 14);
        c.due("differ(9, 7, 28)", x.differ(9, 7, 28), 32);
        c.due("differ(8, 6, 160)", x.differ(8, 6, 160), 160);
        c.due("differ(8, 6, 161)", x.differ(8, 6, 161), -1);
        c.due("differ(5, 6, 255)", x.differ(5, 6, 255), 255);
        c.due("differ(5, 5, 0)", x.differ(5, 5, 0), -1);
        for (int no : NO_QUESTIONS) {
            c.throwsIt("differ(" + no + ", 0, 0)", x, Check.NO_VALUE, () -> x.differ(no, 0, 0));
            c.throwsIt("differ(0, " + no + ", 0)", x, Check.NO_VALUE, () -> x.differ(0, no, 0));
        }
        for (int no : NO_SIGNS) {
            c.throwsIt("differ(0, 1, " + no + ")", x, Check.NO_VALUE, () -> x.differ(0, 1, no));
        }
    }
}
