/** Promises 1 to 15: a new object, and the acts. */
public final class ActsTest {

    private static final int[] NO_TEXTS = {-1, 3, Integer.MIN_VALUE, Integer.MAX_VALUE};
    private static final int[] NO_SIGNS = {-1, 256, Integer.MIN_VALUE, Integer.MAX_VALUE};

    private static final Check c = new Check();

    public static void main(String[] args) {
        made();
        add();
        put();
        insert();
        drop();
        clear();
        copy();
        join();
        turn();
        fill();
        cut();
        keep();
        keepKind();
        take();
        mend();
        c.end();
    }

    private static void made() {
        c.promise(1);
        Kindcutter x = new Kindcutter();
        for (int text = 0; text < 3; text++) {
            c.due("length", x.length(text), 0);
            c.due("signs", x.signs(text), "");
        }
        for (int what = 0; what <= 4; what++) {
            c.due("house(" + what + ")", x.house(what), 0);
        }
        new Kindcutter().add(0, 1);
        c.due("length with another object", x.length(0), 0);
    }

    private static void add() {
        c.promise(2);
        Kindcutter x = new Kindcutter();
        c.due("add(2, 0)", x.add(2, 0), 1);
        c.due("add(2, 255)", x.add(2, 255), 2);
        c.due("signs(2)", x.signs(2), "0 255");
        c.due("signs(1)", x.signs(1), "");
        for (int no : NO_TEXTS) {
            c.throwsIt("add(" + no + ", 0)", x, Check.NO_PLACE, () -> x.add(no, 0));
            c.throwsIt("add(" + no + ", 256)", x, Check.NO_PLACE, () -> x.add(no, 256));
        }
        for (int no : NO_SIGNS) {
            c.throwsIt("add(0, " + no + ")", x, Check.NO_VALUE, () -> x.add(0, no));
        }
        c.due("house(1)", x.house(1), 2);
        Kindcutter full = Check.with(Check.times(29, 65));
        c.due("add of the last one", full.add(0, 66), 30);
        c.due("add with 30", full.add(0, 67), -9);
        c.due("length", full.length(0), 30);
        c.due("sign", full.sign(0, 29), 66);
        c.due("house(1)", full.house(1), 31);
        c.due("house(2)", full.house(2), 1);
        c.throwsIt("add(0, 256) with 30", full, Check.NO_VALUE, () -> full.add(0, 256));
    }

    private static void put() {
        c.promise(3);
        Kindcutter x = Check.with("abc");
        c.due("put(0, 0, 255)", x.put(0, 0, 255), 97);
        c.due("put(0, 2, 0)", x.put(0, 2, 0), 99);
        c.due("put(0, 1, 98)", x.put(0, 1, 98), 98);
        c.due("signs", x.signs(0), "255 98 0");
        c.due("put of 255", x.put(0, 0, 7), 255);
        c.due("house(1)", x.house(1), 1 + 3 + 4);
        for (int no : NO_TEXTS) {
            c.throwsIt("put(" + no + ", 0, 0)", x, Check.NO_PLACE, () -> x.put(no, 0, 0));
            c.throwsIt("put(" + no + ", 9, 256)", x, Check.NO_PLACE, () -> x.put(no, 9, 256));
        }
        for (int no : new int[] {-1, 3, 30, Integer.MIN_VALUE, Integer.MAX_VALUE}) {
            c.throwsIt("put(0, " + no + ", 0)", x, Check.NO_PLACE, () -> x.put(0, no, 0));
            c.throwsIt("put(0, " + no + ", -1)", x, Check.NO_PLACE, () -> x.put(0, no, -1));
        }
        for (int no : NO_SIGNS) {
            c.throwsIt("put(0, 0, " + no + ")", x, Check.NO_VALUE, () -> x.put(0, 0, no));
        }
        c.throwsIt("put(1, 0, 0)", x, Check.NO_PLACE, () -> x.put(1, 0, 0));
        Kindcutter full = Check.with(Check.times(30, 65));
        c.due("put of the last one", full.put(0, 29, 66), 65);
    }

    private static void insert() {
        c.promise(4);
        Kindcutter x = new Kindcutter();
        c.due("insert(0, 0, 98)", x.insert(0, 0, 98), 1);
        c.due("insert(0, 0, 97)", x.insert(0, 0, 97), 2);
        c.due("insert(0, 2, 100)", x.insert(0, 2, 100), 3);
        c.due("insert(0, 2, 255)", x.insert(0, 2, 255), 4);
        c.due("signs", x.signs(0), "97 98 255 100");
        for (int no : NO_TEXTS) {
            c.throwsIt("insert(" + no + ", 0, 0)", x, Check.NO_PLACE, () -> x.insert(no, 0, 0));
            c.throwsIt("insert(" + no + ", 0, -1)", x, Check.NO_PLACE, () -> x.insert(no, 0, -1));
        }
        for (int no : new int[] {-1, 5, Integer.MIN_VALUE, Integer.MAX_VALUE}) {
            c.throwsIt("insert(0, " + no + ", 0)", x, Check.NO_PLACE, () -> x.insert(0, no, 0));
            c.throwsIt("insert(0, " + no + ", 256)", x, Check.NO_PLACE, () -> x.insert(0, no, 256));
        }
        for (int no : NO_SIGNS) {
            c.throwsIt("insert(0, 1, " + no + ")", x, Check.NO_VALUE, () -> x.insert(0, 1, no));
        }
        c.due("house(1)", x.house(1), 4);
        Kindcutter full = Check.with(Check.times(29, 65));
        c.due("insert of the last one", full.insert(0, 0, 66), 30);
        c.due("sign(0, 0)", full.sign(0, 0), 66);
        c.due("insert with 30", full.insert(0, 0, 1), -9);
        c.due("insert behind all with 30", full.insert(0, 30, 1), -9);
        c.due("sign(0, 0)", full.sign(0, 0), 66);
        c.due("house(1)", full.house(1), 31);
        c.due("house(2)", full.house(2), 2);
        c.throwsIt("insert(0, 31, 1) with 30", full, Check.NO_PLACE, () -> full.insert(0, 31, 1));
        c.throwsIt("insert(0, 0, 256) with 30", full, Check.NO_VALUE, () -> full.insert(0, 0, 256));
    }

    private static void drop() {
        c.promise(5);
        Kindcutter x = Check.with(97, 255, 99, 100);
        c.due("drop(0, 1)", x.drop(0, 1), 255);
        c.due("signs", x.signs(0), "97 99 100");
        c.due("drop(0, 2)", x.drop(0, 2), 100);
        c.due("drop(0, 0)", x.drop(0, 0), 97);
        c.due("signs", x.signs(0), "99");
        c.throwsIt("drop(0, 1)", x, Check.NO_PLACE, () -> x.drop(0, 1));
        c.due("drop(0, 0)", x.drop(0, 0), 99);
        c.due("house(1)", x.house(1), 1 + 4 + 4);
        for (int no : NO_TEXTS) {
            c.throwsIt("drop(" + no + ", 0)", x, Check.NO_PLACE, () -> x.drop(no, 0));
            c.throwsIt("drop(0, " + no + ")", x, Check.NO_PLACE, () -> x.drop(0, no));
        }
        c.throwsIt("drop(0, 0)", x, Check.NO_PLACE, () -> x.drop(0, 0));
        Kindcutter full = Check.with(Check.times(30, 65));
        full.put(0, 29, 66);
        c.due("drop of the last one", full.drop(0, 29), 66);
        c.due("length", full.length(0), 29);
    }

    private static void clear() {
        c.promise(6);
        Kindcutter x = Check.with("abc");
        Check.set(x, 1, 1, 2);
        c.due("clear(0)", x.clear(0), 3);
        c.due("length(0)", x.length(0), 0);
        c.due("length(1)", x.length(1), 2);
        int acts = x.house(1);
        c.due("clear(0) again", x.clear(0), 0);
        c.due("house(1)", x.house(1), acts + 1);
        for (int no : NO_TEXTS) {
            c.throwsIt("clear(" + no + ")", x, Check.NO_PLACE, () -> x.clear(no));
        }
    }

    private static void copy() {
        c.promise(7);
        Kindcutter x = Check.with("abc");
        Check.set(x, 1, 1, 2, 3, 4, 5);
        c.due("copy(0, 1)", x.copy(0, 1), 3);
        c.due("signs(1)", x.signs(1), "97 98 99");
        c.due("signs(0)", x.signs(0), "97 98 99");
        x.put(1, 0, 9);
        c.due("signs(0), not the same row", x.signs(0), "97 98 99");
        int acts = x.house(1);
        c.due("copy(0, 0)", x.copy(0, 0), 3);
        c.due("signs(0)", x.signs(0), "97 98 99");
        c.due("copy(2, 0)", x.copy(2, 0), 0);
        c.due("length(0)", x.length(0), 0);
        c.due("house(1)", x.house(1), acts + 2);
        for (int no : NO_TEXTS) {
            c.throwsIt("copy(" + no + ", 0)", x, Check.NO_PLACE, () -> x.copy(no, 0));
            c.throwsIt("copy(0, " + no + ")", x, Check.NO_PLACE, () -> x.copy(0, no));
        }
    }

    private static void join() {
        c.promise(8);
        Kindcutter x = Check.with("ab");
        Check.set(x, 1, 1, 2, 255);
        c.due("join(0, 1)", x.join(0, 1), 5);
        c.due("signs(0)", x.signs(0), "97 98 1 2 255");
        c.due("signs(1)", x.signs(1), "1 2 255");
        c.due("join(0, 0)", x.join(0, 0), 10);
        c.due("signs(0)", x.signs(0), "97 98 1 2 255 97 98 1 2 255");
        c.due("join(0, 2)", x.join(0, 2), 10);
        c.due("join(2, 2)", x.join(2, 2), 0);
        int acts = x.house(1);
        x.fill(2, 0, 20);
        c.due("join to 30", x.join(2, 0), 30);
        c.due("join above 30", x.join(2, 1), -9);
        c.due("join above 30, the same", x.join(2, 2), -9);
        c.due("length(2)", x.length(2), 30);
        c.due("house(1)", x.house(1), acts + 2);
        c.due("house(2)", x.house(2), 2);
        x.clear(1);
        c.due("join of none to 30", x.join(2, 1), 30);
        x.fill(1, 0, 15);
        c.due("join of 15 with itself", x.join(1, 1), 30);
        x.fill(1, 0, 16);
        c.due("join of 16 with itself", x.join(1, 1), -9);
        for (int no : NO_TEXTS) {
            c.throwsIt("join(" + no + ", 0)", x, Check.NO_PLACE, () -> x.join(no, 0));
            c.throwsIt("join(2, " + no + ")", x, Check.NO_PLACE, () -> x.join(2, no));
        }
    }

    private static void turn() {
        c.promise(9);
        Kindcutter x = Check.with("abcd");
        c.due("turn(0)", x.turn(0), 1);
        c.due("signs", x.signs(0), "100 99 98 97");
        x.add(0, 255);
        c.due("turn of five", x.turn(0), 1);
        c.due("signs", x.signs(0), "255 97 98 99 100");
        Check.set(x, 0, 1, 2, 3, 2, 1);
        int acts = x.house(1);
        c.due("turn of a text that is the same", x.turn(0), 0);
        c.due("signs", x.signs(0), "1 2 3 2 1");
        c.due("turn without signs", x.turn(1), 0);
        c.due("house(1)", x.house(1), acts + 2);
        Check.set(x, 0, 1, 2, 3, 1);
        c.due("turn with the same ends", x.turn(0), 1);
        Check.set(x, 0, 1, 2, 2, 3);
        c.due("turn with the same middle", x.turn(0), 1);
        for (int no : NO_TEXTS) {
            c.throwsIt("turn(" + no + ")", x, Check.NO_PLACE, () -> x.turn(no));
        }
    }

    private static void fill() {
        c.promise(10);
        Kindcutter x = Check.with("ab");
        c.due("fill(0, 253, 3)", x.fill(0, 253, 3), 2);
        c.due("signs", x.signs(0), "253 254 255");
        c.due("fill(0, 5, 0)", x.fill(0, 5, 0), 3);
        c.due("signs", x.signs(0), "");
        c.due("fill(0, 0, 30)", x.fill(0, 0, 30), 0);
        c.due("length", x.length(0), 30);
        c.due("fill(0, 226, 30)", x.fill(0, 226, 30), 30);
        c.due("sign(0, 29)", x.sign(0, 29), 255);
        c.due("fill(0, 255, 0)", x.fill(0, 255, 0), 30);
        c.due("house(1)", x.house(1), 1 + 2 + 5);
        x.add(0, 1);
        for (int no : NO_TEXTS) {
            c.throwsIt("fill(" + no + ", 0, 1)", x, Check.NO_PLACE, () -> x.fill(no, 0, 1));
            c.throwsIt("fill(" + no + ", -1, 31)", x, Check.NO_PLACE, () -> x.fill(no, -1, 31));
        }
        for (int no : NO_SIGNS) {
            c.throwsIt("fill(0, " + no + ", 0)", x, Check.NO_VALUE, () -> x.fill(0, no, 0));
            c.throwsIt("fill(0, " + no + ", 1)", x, Check.NO_VALUE, () -> x.fill(0, no, 1));
        }
        for (int no : new int[] {-1, 31, Integer.MIN_VALUE, Integer.MAX_VALUE}) {
            c.throwsIt("fill(0, 1, " + no + ")", x, Check.NO_VALUE, () -> x.fill(0, 1, no));
        }
        c.throwsIt("fill(0, 227, 30)", x, Check.NO_VALUE, () -> x.fill(0, 227, 30));
        c.throwsIt("fill(0, 255, 2)", x, Check.NO_VALUE, () -> x.fill(0, 255, 2));
    }

    private static void cut() {
        c.promise(11);
        Kindcutter x = Check.with("abcdef");
        c.due("cut(0, 1, 5)", x.cut(0, 1, 5), 4);
        c.due("signs", x.signs(0), "98 99 100 101");
        c.due("cut(0, 0, 4)", x.cut(0, 0, 4), 4);
        c.due("signs", x.signs(0), "98 99 100 101");
        c.due("cut(0, 3, 4)", x.cut(0, 3, 4), 1);
        c.due("signs", x.signs(0), "101");
        c.due("cut(0, 1, 1)", x.cut(0, 1, 1), 0);
        c.due("cut(0, 0, 0)", x.cut(0, 0, 0), 0);
        c.due("house(1)", x.house(1), 1 + 6 + 5);
        Check.set(x, 0, 1, 2, 3);
        for (int no : NO_TEXTS) {
            c.throwsIt("cut(" + no + ", 0, 0)", x, Check.NO_PLACE, () -> x.cut(no, 0, 0));
        }
        c.throwsIt("cut(0, -1, 2)", x, Check.NO_PLACE, () -> x.cut(0, -1, 2));
        c.throwsIt("cut(0, 2, 1)", x, Check.NO_PLACE, () -> x.cut(0, 2, 1));
        c.throwsIt("cut(0, 0, 4)", x, Check.NO_PLACE, () -> x.cut(0, 0, 4));
        c.throwsIt("cut(0, 4, 4)", x, Check.NO_PLACE, () -> x.cut(0, 4, 4));
        c.throwsIt("cut(0, MAX, MIN)", x, Check.NO_PLACE,
            () -> x.cut(0, Integer.MAX_VALUE, Integer.MIN_VALUE));
        c.throwsIt("cut(0, MIN, MAX)", x, Check.NO_PLACE,
            () -> x.cut(0, Integer.MIN_VALUE, Integer.MAX_VALUE));
    }

    private static void keep() {
        c.promise(12);
        Kindcutter x = Check.with("a1 B2");
        c.due("keep(0, 2, false)", x.keep(0, 2, false), 2);
        c.due("signs", x.signs(0), "97 32 66");
        c.due("keep(0, 1, true)", x.keep(0, 1, true), 1);
        c.due("signs", x.signs(0), "97 66");
        c.due("keep(0, 1, true) again", x.keep(0, 1, true), 0);
        c.due("keep(0, 6, true)", x.keep(0, 6, true), 2);
        c.due("keep(0, 0, true) of none", x.keep(0, 0, true), 0);
        c.due("house(1)", x.house(1), 1 + 5 + 5);
        Check.set(x, 0, 1, 2);
        for (int no : NO_TEXTS) {
            c.throwsIt("keep(" + no + ", 0, true)", x, Check.NO_PLACE, () -> x.keep(no, 0, true));
            c.throwsIt("keep(" + no + ", 14, true)", x, Check.NO_PLACE, () -> x.keep(no, 14, true));
        }
        for (int no : new int[] {-1, 14, Integer.MIN_VALUE, Integer.MAX_VALUE}) {
            c.throwsIt("keep(0, " + no + ", true)", x, Check.NO_VALUE, () -> x.keep(0, no, true));
        }
    }

    private static void keepKind() {
        c.promise(13);
        Kindcutter x = Check.with("a1b+c");
        c.due("keepKind(0, 25, false)", x.keepKind(0, 25, false), 1);
        c.due("signs", x.signs(0), "97 49 98 99");
        c.due("keepKind(0, 2, true)", x.keepKind(0, 2, true), 1);
        c.due("signs", x.signs(0), "97 98 99");
        c.due("keepKind(0, 0, false)", x.keepKind(0, 0, false), 0);
        c.due("keepKind(0, 30, true)", x.keepKind(0, 30, true), 3);
        c.due("keepKind of none", x.keepKind(0, 30, true), 0);
        c.due("house(1)", x.house(1), 1 + 5 + 5);
        Check.set(x, 0, 1, 2);
        for (int no : NO_TEXTS) {
            c.throwsIt("keepKind(" + no + ", 1, true)", x, Check.NO_PLACE,
                () -> x.keepKind(no, 1, true));
            c.throwsIt("keepKind(" + no + ", 31, true)", x, Check.NO_PLACE,
                () -> x.keepKind(no, 31, true));
        }
        for (int no : new int[] {-1, 31, Integer.MIN_VALUE, Integer.MAX_VALUE}) {
            c.throwsIt("keepKind(0, " + no + ", true)", x, Check.NO_VALUE,
                () -> x.keepKind(0, no, true));
        }
    }

    private static void take() {
        c.promise(14);
        Kindcutter x = Check.with("12ab  ++");
        Check.set(x, 1, 1, 2, 3, 4, 5);
        c.due("take(0, 1, 1)", x.take(0, 1, 1), 2);
        c.due("signs(1)", x.signs(1), "97 98");
        c.due("length(0)", x.length(0), 8);
        c.due("take(0, 0, 2)", x.take(0, 0, 2), 2);
        c.due("signs(2)", x.signs(2), "49 50");
        int acts = x.house(1);
        c.due("take(0, 3, 0)", x.take(0, 3, 0), 2);
        c.due("signs(0)", x.signs(0), "43 43");
        c.due("take(0, 0, 0)", x.take(0, 0, 0), 2);
        c.due("house(1)", x.house(1), acts + 2);
        for (int no : NO_TEXTS) {
            c.throwsIt("take(" + no + ", 0, 0)", x, Check.NO_PLACE, () -> x.take(no, 0, 0));
            c.throwsIt("take(0, 0, " + no + ")", x, Check.NO_PLACE, () -> x.take(0, 0, no));
        }
        for (int no : new int[] {-1, 1, Integer.MIN_VALUE, Integer.MAX_VALUE}) {
            c.throwsIt("take(0, " + no + ", 1)", x, Check.NO_PLACE, () -> x.take(0, no, 1));
        }
        x.clear(0);
        c.throwsIt("take(0, 0, 1) without pieces", x, Check.NO_PLACE, () -> x.take(0, 0, 1));
    }

    private static void mend() {
        c.promise(15);
        Kindcutter x = Check.with("1 a2-b\0_\t");
        c.due("mend(0)", x.mend(0), 4);
        c.due("signs", x.signs(0), "97 50 98 0 95");
        c.due("mend(0) again", x.mend(0), 0);
        Check.set(x, 0, 173, 49, 0, 36, 173, 49, 0, 32);
        c.due("mend(0)", x.mend(0), 4);
        c.due("signs", x.signs(0), "36 173 49 0");
        Check.set(x, 0, 49, 50, 43);
        int acts = x.house(1);
        c.due("mend of no name at all", x.mend(0), 3);
        c.due("length", x.length(0), 0);
        c.due("mend of none", x.mend(0), 0);
        c.due("house(1)", x.house(1), acts + 2);
        x.fill(0, 64, 30);
        c.due("mend of 30", x.mend(0), 4);
        c.due("length", x.length(0), 26);
        Check.set(x, 0, Check.times(30, 95));
        c.due("mend of 30 that stay", x.mend(0), 0);
        for (int no : NO_TEXTS) {
            c.throwsIt("mend(" + no + ")", x, Check.NO_PLACE, () -> x.mend(no));
        }
    }
}
