import java.util.List;

/**
 * Promises 14, 15 and 37 to 47 with each short text there is: up to five signs of each role that a sign
 * can have in a row, and each two signs.
 */
public final class ShortTextsTest {

    /** What starts a name; digit, blank, reckoning; what only goes on a name; what stands alone. */
    private static final char[] ROLES = {'a', '1', ' ', '+', '\0', '-'};

    private static final int MOST_SIGNS = 5;

    private final Kindcutter x = new Kindcutter();
    private final PlainCutter plain = new PlainCutter();
    private final String signs;

    private ShortTextsTest(String text) {
        signs = text;
        for (int place = 0; place < signs.length(); place++) {
            x.add(0, signs.charAt(place));
            plain.add(0, signs.charAt(place));
        }
    }

    public static void main(String[] args) {
        eachText("");
        eachPair();
        Tally.end();
    }

    private static void eachText(String signs) {
        new ShortTextsTest(signs).allCalls();
        if (signs.length() < MOST_SIGNS) {
            for (char role : ROLES) {
                eachText(signs + role);
            }
        }
    }

    /** At most as many as the document lets be made: some 120 of a text with five signs. */
    private void allCalls() {
        Tally.sentence(37, "to 47, of a short text");
        for (String name : List.of("isName", "fault", "pieces", "sorts", "cuts", "back", "fewest")) {
            call(name + "(0)");
        }
        call("isSound()");
        int many = signs.length();
        for (int from = 0; from < many; from++) {
            call("longest(0, " + from + ")");
            for (int to = from + 1; to <= many; to++) {
                call("sort(0, " + from + ", " + to + ")");
            }
        }
        for (int set = 0; set < 1 << many; set += 2) {
            call("parted(0, " + set + ")");
        }
        int pieces = plain.pieces(0);
        for (int k = 0; k < pieces; k++) {
            for (int what = 0; what <= 2; what++) {
                call("piece(0, " + k + ", " + what + ")");
            }
            acted("take(0, " + k + ", 1)", 1);
        }
        call("piece(0, " + pieces + ", 0)");
        acted("copy(0, 2)", 2);
        acted("mend(2)", 2);
        acted("take(0, " + (pieces - 1) + ", 0)", 0);
        call("digest()");
    }

    private void call(String call) {
        Tally.due(call + " of \"" + signs + "\"", Calls.answer(x, call), Calls.answer(plain, call));
    }

    private void acted(String call, int text) {
        call(call);
        call("signs(" + text + ")");
    }

    private static void eachPair() {
        for (int left = 0; left <= 255; left++) {
            Tally.sentence(39, "and 38, 46: of two SIGNS");
            for (int right = 0; right <= 255; right++) {
                Kindcutter x = new Kindcutter();
                x.add(0, left);
                x.add(0, right);
                List<Integer> pair = List.of(left, right);
                Tally.due("sort " + pair, x.sort(0, 0, 2), PlainModel.sort(pair));
                Tally.due("fault " + pair, x.fault(0), PlainModel.fault(pair));
                Tally.due("fewest " + pair, x.fewest(0), PlainModel.fewest(pair));
                Tally.due("isSound " + pair, x.isSound(), true);
            }
        }
    }
}
