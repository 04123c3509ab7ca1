import java.util.ArrayList;
import java.util.Arrays;
import java.util.Collections;
import java.util.List;
import java.util.stream.Collectors;

/** Promises 48 to 51: the whole; and the terms that hold for all calls. Sentence by sentence. */
public final class WholeTest {

    private static final String A30 = "a".repeat(30);

    private static final List<String> ASKING = List.of("kind(1)", "ask(1, 1)", "all(1)", "nth(1, 1)",
        "next(1, 1, true)", "run(1, 1)", "ofKind(1, 1, 2)", "ofQuestion(1, 1, 2)", "kinds(1, 2)",
        "both(1, 1)", "within(1, 2)", "differ(1, 2, 1)", "length(0)", "sign(0, 1)", "signs(0)",
        "kindsOf(0)", "count(0, 1)", "countKind(0, 1)", "isAll(0, 1)", "first(0, 1, true)",
        "alike(0, 1)", "isName(0)", "fault(0)", "sort(0, 0, 1)", "longest(0, 1)", "pieces(0)",
        "piece(0, 0, 1)", "sorts(0)", "cuts(0)", "back(0)", "fewest(0)", "parted(0, 2)", "house(0)",
        "isSound()", "digest()");

    public static void main(String[] args) {
        house();
        acts();
        asks();
        actsThatChangeNothing();
        refusals();
        thrown();
        knock();
        isSound();
        digestOfNone();
        digest();
        digestOfCounts();
        digestWrapsAround();
        lastCalls();
        Tally.end();
    }

    private static void sentence(int promise, String words) {
        Tally.sentence(promise, words);
    }

    private static void house() {
        sentence(48, "0 SIGNS of all TEXTS");
        Run.of().due("house(0)", 0);
        Run.of("", "", "a").due("house(0)", 1);
        Run.of("abc", "de", "f").due("house(0)", 6).due("clear(0)", 3).due("house(0)", 3);
        Run.of(A30, A30, A30).due("house(0)", 90).due("add(0, 97)", Run.REFUSED).due("house(0)", 90);
        sentence(48, "4 how many TEXTS are a NAME");
        Run.of().due("house(4)", 0);
        Run.of("a", "1", "").due("house(4)", 1);
        Run.of("1", "a", "_1").due("house(4)", 2);
        Run.of("a", "b", A30).due("house(4)", 3).due("put(2, 29, 32)", 97).due("house(4)", 2);
        sentence(48, "Throws IllegalArgumentException if what is not 0 to 4");
        Run.each("house(%)", new String[] {"-1", "5", "MIN", "MAX"}, Run.NO_VALUE, "a");
    }

    private static void acts() {
        sentence(48, "1 how many acts were done (those above, from add() to mend())");
        Run.of("a", "1+").due("house(1)", 3);
        Run.of().due("add(0, 97)", 1).due("house(1)", 1).due("put(0, 0, 98)", 97).due("house(1)", 2)
            .due("insert(0, 0, 49)", 2).due("house(1)", 3).due("drop(0, 0)", 49).due("house(1)", 4)
            .due("copy(0, 1)", 1).due("house(1)", 5).due("join(0, 1)", 2).due("house(1)", 6)
            .due("put(0, 0, 97)", 98).due("turn(0)", 1).due("house(1)", 8);
        Run.of().due("fill(0, 48, 3)", 0).due("house(1)", 1).due("cut(0, 0, 2)", 2).due("house(1)", 2)
            .due("keep(0, 2, false)", 2).due("house(1)", 3).due("fill(0, 64, 3)", 0)
            .due("keepKind(0, 1, true)", 1).due("house(1)", 5).due("take(0, 0, 1)", 2)
            .due("house(1)", 6).due("mend(0)", 0).due("house(1)", 7).due("clear(0)", 2)
            .due("house(1)", 8);
    }

    private static void asks() {
        sentence(48, "what only asks is no act, and changes nothing");
        for (String call : ASKING) {
            Run.of("ab", "+").times(2, call).due("house(1)", 3).due("house(2)", 0).due("house(3)", 0)
                .holds("97 98", "43", "");
        }
        Tally.due("calls that ask, and knock()", ASKING.size() + 1, Calls.ALL.size() - Calls.ACTS.size());
    }

    private static void actsThatChangeNothing() {
        sentence(48, "also if nothing is other by them");
        Run.of("a").due("put(0, 0, 97)", 97).due("clear(1)", 0).due("copy(0, 0)", 1)
            .due("join(0, 1)", 1).due("turn(0)", 0).due("fill(1, 0, 0)", 0).due("cut(0, 0, 1)", 1)
            .due("keep(0, 0, true)", 0).due("keepKind(0, 2, true)", 0).due("take(0, 0, 0)", 1)
            .due("mend(0)", 0).due("house(1)", 12).due("house(2)", 0).holds("97", "", "");
    }

    private static void refusals() {
        sentence(48, "2 how often REFUSED was told; it is no act that was done");
        Run.of(A30).due("house(2)", 0).due("add(0, 97)", Run.REFUSED).due("house(2)", 1)
            .due("insert(0, 0, 97)", Run.REFUSED).due("house(2)", 2)
            .due("join(0, 0)", Run.REFUSED).due("house(2)", 3).due("house(1)", 30);
        Run.of(A30, A30, A30).due("add(0, 97)", Run.REFUSED).due("add(1, 97)", Run.REFUSED)
            .due("join(1, 2)", Run.REFUSED).due("insert(2, 30, 97)", Run.REFUSED).due("house(2)", 4)
            .due("house(1)", 90);
    }

    /** Of each call that throws at all; that nothing changes is looked at by Run itself. */
    private static void thrown() {
        sentence(48, "acts that threw nothing; a method that throws an exception changes nothing");
        for (String call : Calls.ALL) {
            String[] words = call.split(" ");
            if (words.length > 1) {
                boolean isOfText = words[1].equals("text");
                String arguments = Arrays.stream(words).skip(1)
                    .map(what -> what.equals("is") ? "true" : "-1").collect(Collectors.joining(", "));
                Run.of("a+", "1", A30).due(words[0] + "(" + arguments + ")",
                    isOfText ? Run.NO_PLACE : Run.NO_VALUE).due("house(1)", 33).due("house(2)", 0);
            }
        }
    }

    private static void knock() {
        sentence(49, "Returns how often one knocked, with this");
        Run.of("a").due("house(3)", 0).due("knock()", 1).due("house(3)", 1).due("knock()", 2)
            .due("knock()", 3).due("house(3)", 3);
        sentence(49, "(this is no act)");
        Run.of("a").due("knock()", 1).due("house(1)", 1).due("house(2)", 0).holds("97", "", "");
        sentence(49, "each object for itself");
        Run one = Run.of();
        Run.of().due("knock()", 1).due("knock()", 2);
        one.due("house(3)", 0).due("knock()", 1);
    }

    private static void isSound() {
        sentence(50, "(it always is)");
        Run.of().due("isSound()", true);
        Run.of(A30, A30, "-".repeat(30)).due("isSound()", true).due("add(0, 97)", Run.REFUSED)
            .due("isSound()", true);
        Run.of("a").due("put(0, 1, 97)", Run.NO_PLACE).due("knock()", 1).due("isSound()", true);
        for (int from = 0; from <= 226; from++) {
            Run.of().times(1, "fill(0, " + from + ", 30)").times(1, "copy(0, 1)").times(1, "turn(1)")
                .times(1, "fill(2, " + from + ", 1)").due("isSound()", true);
        }
    }

    private static long checksum(Integer... values) {
        return PlainModel.checksum(List.of(values));
    }

    private static void digestOfNone() {
        sentence(51, "of a new object: all is 0, but that it is sound");
        List<Integer> values = new ArrayList<>(Collections.nCopies(3 * (1 + 14 + 4) + 5, 0));
        values.add(1);
        Run.of().due("digest()", PlainModel.checksum(values)).due("digest()", -3050391641079804900L)
            .due("digest()", PlainModel.checksum(values));
        sentence(51, "the number that ../shared/tests tells last");
        Run.of("12a3\0 \t\u00a0+\u00f7((").due("cut(0, 2, 5)", 3).due("cut(0, 1, 3)", 2)
            .due("keep(0, 13, true)", 1).due("keepKind(0, 15, false)", 1)
            .due("digest()", -3050391641065028564L);
    }

    private static void digest() {
        sentence(51, "TEXT by TEXT length(), sign() and kind(), count(), fault(), pieces(), cuts(), fewest()");
        Run.of("a", "", "1+\u00ff").due("add(0, 45)", 2).due("knock()", 1).due("knock()", 2)
            .due("digest()", checksum(
                2, 97, 2, 45, 20,
                2, 1, 0, 1, 0, 1, 0, 0, 0, 0, 0, 1, 1, 0,
                1, 2, 1 << 1, 2,
                0,
                0, 0, 0, 0, 0, 0, 0, 0, 0, 0, 0, 0, 0, 0,
                0, 0, 0, 0,
                3, 49, 9, 43, 25, 255, 2,
                3, 1, 1, 2, 0, 1, 0, 0, 0, 0, 0, 1, 2, 0,
                0, 3, 1 << 1 | 1 << 2, 3,
                5, 5, 0, 2, 0,
                1));
        sentence(51, "fault() NONE of a NAME is a v, too");
        Run.of("a1").due("digest()", checksum(
                2, 97, 2, 49, 9,
                2, 1, 1, 2, 0, 1, 0, 0, 0, 0, 0, 1, 2, 0,
                -1, 1, 0, 1,
                0, 0, 0, 0, 0, 0, 0, 0, 0, 0, 0, 0, 0, 0, 0, 0, 0, 0, 0,
                0, 0, 0, 0, 0, 0, 0, 0, 0, 0, 0, 0, 0, 0, 0, 0, 0, 0, 0,
                2, 2, 0, 0, 1,
                1));
    }

    private static void digestOfCounts() {
        sentence(51, "house() of 0 to 4: what is REFUSED, what changes no SIGN, what knocks, what throws");
        Run.of(A30).due("digest()", digestOfFull(30, 0, 0))
            .due("add(0, 97)", Run.REFUSED).due("digest()", digestOfFull(30, 1, 0))
            .due("turn(0)", 0).due("digest()", digestOfFull(31, 1, 0))
            .due("knock()", 1).due("digest()", digestOfFull(31, 1, 1))
            .due("add(3, 97)", Run.NO_PLACE).due("digest()", digestOfFull(31, 1, 1))
            .due("fewest(0)", 1).due("digest()", digestOfFull(31, 1, 1));
    }

    /** With 30 times "a" in text 0, and these counts. */
    private static long digestOfFull(int acts, int refusals, int knocks) {
        List<Integer> values = new ArrayList<>(List.of(30));
        for (int place = 0; place < 30; place++) {
            values.addAll(List.of(97, 2));
        }
        values.addAll(List.of(30, 30, 0, 30, 0, 30, 0, 0, 0, 0, 0, 30, 30, 0));
        values.addAll(List.of(-1, 1, 0, 1));
        values.addAll(Collections.nCopies(2 * (1 + 14 + 4), 0));
        values.addAll(List.of(30, acts, refusals, knocks, 1, 1));
        return PlainModel.checksum(values);
    }

    private static void digestWrapsAround() {
        sentence(51, "which wraps around as a 64-bit integer");
        String[] texts = {"-".repeat(30), "a" + "\u00ff".repeat(29), "\u00bb".repeat(30)};
        List<Integer> values = new ArrayList<>();
        int[][] counts = {
            {30, 0, 0, 0, 0, 0, 0, 0, 0, 0, 0, 0, 0, 0},
            {30, 30, 0, 30, 0, 30, 0, 0, 0, 0, 0, 30, 30, 0},
            {30, 0, 0, 0, 0, 0, 0, 0, 0, 0, 30, 0, 0, 0},
        };
        int[] kinds = {20, 2, 30};
        int[][] ends = {{0, 30, (1 << 30) - 2, 30}, {-1, 1, 0, 1}, {0, 30, (1 << 30) - 2, 30}};
        for (int text = 0; text < 3; text++) {
            values.add(30);
            for (char sign : texts[text].toCharArray()) {
                values.add((int) sign);
                values.add(kinds[text]);
            }
            for (int count : counts[text]) {
                values.add(count);
            }
            for (int end : ends[text]) {
                values.add(end);
            }
        }
        values.addAll(List.of(90, 90, 1, 1, 1, 1));
        Run.of(texts).due("add(1, 97)", Run.REFUSED).due("knock()", 1)
            .due("digest()", PlainModel.checksum(values));
    }

    private static void lastCalls() {
        sentence(49, "512 calls: all of them knock");
        Kindcutter x = new Kindcutter();
        for (int i = 1; i < Calls.MOST; i++) {
            x.knock();
        }
        Tally.due("knock() as the 512th call", x.knock(), 512);
        sentence(48, "512 calls: acts up to the last one, which asks");
        x = new Kindcutter();
        for (int i = 1; i < Calls.MOST; i++) {
            x.turn(i % 3);
        }
        Tally.due("house(1) as the 512th call", x.house(1), 511);
        sentence(48, "512 calls: 30 signs, then refusals up to the last one, which asks");
        x = new Kindcutter();
        for (int i = 1; i < Calls.MOST; i++) {
            x.add(0, 97);
        }
        Tally.due("house(2) as the 512th call", x.house(2), 481);
    }
}
