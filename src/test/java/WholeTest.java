/** Promises 48 to 51: the whole. */
public final class WholeTest {

    private static final Check c = new Check();

    public static void main(String[] args) {
        house();
        acts();
        knock();
        isSound();
        digest();
        c.end();
    }

    private static void house() {
        c.promise(48);
        Kindcutter x = Check.with("a1");
        Check.set(x, 1, '1', 'a', ' ');
        Check.set(x, 2, '_');
        c.due("house(0)", x.house(0), 6);
        c.due("house(1)", x.house(1), 1 + 2 + 1 + 3 + 1 + 1);
        c.due("house(2)", x.house(2), 0);
        c.due("house(3)", x.house(3), 0);
        c.due("house(4)", x.house(4), 2);
        x.fill(0, 65, 20);
        x.join(0, 0);
        x.knock();
        c.due("house(0)", x.house(0), 24);
        c.due("house(1)", x.house(1), 10);
        c.due("house(2)", x.house(2), 1);
        c.due("house(3)", x.house(3), 1);
        c.due("house(4)", x.house(4), 2);
        for (int no : new int[] {-1, 5, Integer.MIN_VALUE, Integer.MAX_VALUE}) {
            c.throwsIt("house(" + no + ")", x, Check.NO_VALUE, () -> x.house(no));
        }
    }

    /** Each act counts one, also if nothing is other by it. */
    private static void acts() {
        c.promise(48);
        Kindcutter x = new Kindcutter();
        x.add(0, 97);
        x.put(0, 0, 97);
        x.insert(0, 0, 98);
        x.drop(0, 0);
        x.clear(1);
        x.copy(0, 0);
        x.join(0, 1);
        x.turn(0);
        x.fill(1, 0, 0);
        x.cut(0, 0, 1);
        x.keep(0, 0, true);
        x.keepKind(0, 2, true);
        x.take(0, 0, 0);
        x.mend(0);
        c.due("house(1)", x.house(1), 14);
        c.due("house(2)", x.house(2), 0);
        c.due("signs(0)", x.signs(0), "97");
    }

    private static void knock() {
        c.promise(49);
        Kindcutter x = Check.with("a");
        int acts = x.house(1);
        c.due("knock()", x.knock(), 1);
        c.due("knock()", x.knock(), 2);
        c.due("knock()", x.knock(), 3);
        c.due("house(1)", x.house(1), acts);
        c.due("house(3)", x.house(3), 3);
        c.due("signs(0)", x.signs(0), "97");
        c.due("knock() of another object", new Kindcutter().knock(), 1);
    }

    private static void isSound() {
        c.promise(50);
        Kindcutter x = new Kindcutter();
        c.due("isSound() of a new object", x.isSound(), true);
        for (int from = 0; from <= 226; from += 2) {
            x.fill(0, from, 30);
            x.copy(0, 1);
            x.turn(1);
            x.cut(0, 0, 15);
            x.copy(0, 2);
            c.due("isSound() from " + from, x.isSound(), true);
            if (from % 60 == 58) {
                x = new Kindcutter();
            }
        }
    }

    private static void digest() {
        c.promise(51);
        Kindcutter x = new Kindcutter();
        c.due("digest() of a new object", x.digest(), digestOf(x));
        c.due("digest() again", x.digest(), digestOf(x));
        x.fill(0, 30, 30);
        Check.set(x, 1, 'a', '1', 0, 255);
        Check.set(x, 2, ' ', '<', '9');
        x.add(0, 1);
        x.knock();
        x.knock();
        c.due("digest()", x.digest(), digestOf(x));
        x.turn(1);
        c.due("digest() after turn", x.digest(), digestOf(x));
        // The last run under ../shared/tests tells this number.
        Kindcutter told = new Kindcutter();
        "12a3\0 \t\u00a0+\u00f7((".chars().forEach(sign -> told.add(0, sign));
        told.cut(0, 2, 5);
        told.cut(0, 1, 3);
        told.keep(0, 13, true);
        told.keepKind(0, 15, false);
        c.due("digest() as told", told.digest(), -3050391641065028564L);
    }

    private static long digestOf(Kindcutter x) {
        long d = 8005;
        for (int text = 0; text < 3; text++) {
            d = d * 31 + x.length(text);
            for (int place = 0; place < x.length(text); place++) {
                d = d * 31 + x.sign(text, place);
                d = d * 31 + x.kind(x.sign(text, place));
            }
            for (int question = 0; question <= 13; question++) {
                d = d * 31 + x.count(text, question);
            }
            d = d * 31 + x.fault(text);
            d = d * 31 + x.pieces(text);
            d = d * 31 + x.cuts(text);
            d = d * 31 + x.fewest(text);
        }
        for (int what = 0; what <= 4; what++) {
            d = d * 31 + x.house(what);
        }
        return d * 31 + (x.isSound() ? 1 : 0);
    }
}
