import java.util.ArrayList;
import java.util.Collections;
import java.util.List;
import java.util.stream.Collectors;

/** Long runs of calls beside the plain model: each answer has to be the same, throws too. */
public final class ModelTest {

    private static final int RUNS = 400;
    private static final int ACTS = 40;
    private static final String NO_PLACE = "throws.IndexOutOfBoundsException";
    private static final String NO_VALUE = "throws.IllegalArgumentException";

    /** Signs that make pieces of all sorts often; each other one comes too, but seldom. */
    private static final String COMMON = "aZ_$19 \t\u001c\0\u00ad\u007f+<-(\u00a0\u00b5\u00d7";

    private static final Check c = new Check();

    private final Kindcutter x = new Kindcutter();
    private final List<List<Integer>> texts = new ArrayList<>();
    private int acts;
    private int refusals;
    private long state;

    private interface Call {
        Object answer();
    }

    private ModelTest(int run) {
        state = run * 7919L + 1;
        for (int text = 0; text < 3; text++) {
            texts.add(new ArrayList<>());
        }
    }

    public static void main(String[] args) {
        for (int run = 0; run < RUNS; run++) {
            ModelTest test = new ModelTest(run);
            for (int act = 0; act < ACTS; act++) {
                test.act();
                test.askOne();
            }
            test.askAll();
        }
        c.end();
    }

    /** The same numbers each time: a plain row of remainders. */
    private int pick(int below) {
        state = state * 6364136223846793005L + 1442695040888963407L;
        return (int) ((state >>> 33) % below);
    }

    private int text() {
        return pick(40) == 0 ? pick(2) * 4 - 1 : pick(3);
    }

    private int sign() {
        if (pick(40) == 0) {
            return pick(2) * 257 - 1;
        }
        return pick(4) == 0 ? pick(256) : COMMON.charAt(pick(COMMON.length()));
    }

    /** A place of a text, and now and then one that it lacks. */
    private int place(int text) {
        int many = text >= 0 && text <= 2 ? texts.get(text).size() : 1;
        return pick(many + 3) - 1;
    }

    private List<Integer> row(int text) {
        return texts.get(text);
    }

    private static boolean isText(int text) {
        return text >= 0 && text <= 2;
    }

    private static boolean isSign(int sign) {
        return sign >= 0 && sign <= 255;
    }

    private Object acted(Object answer) {
        acts++;
        return answer;
    }

    private Object refused() {
        refusals++;
        return -9;
    }

    private static String given(Call call) {
        try {
            return String.valueOf(call.answer());
        } catch (RuntimeException e) {
            return "throws." + e.getClass().getSimpleName();
        }
    }

    private static void same(int promise, String call, Call given, Object want) {
        c.promise(promise);
        c.due(call, given(given), String.valueOf(want));
    }

    private void act() {
        int text = text();
        int other = text();
        int sign = sign();
        int place = place(text);
        int to = place(text);
        boolean is = pick(2) == 0;
        switch (pick(18)) {
            case 0 -> same(3, "put", () -> x.put(text, place, sign), put(text, place, sign));
            case 1, 2 -> same(4, "insert", () -> x.insert(text, place, sign), insert(text, place, sign));
            case 3 -> same(5, "drop", () -> x.drop(text, place), drop(text, place));
            case 4 -> same(7, "copy", () -> x.copy(text, other), become(text, other, 0, -1));
            case 5 -> same(8, "join", () -> x.join(text, other), join(text, other));
            case 6 -> same(9, "turn", () -> x.turn(text), turn(text));
            case 7 -> same(11, "cut", () -> x.cut(text, place, to), cut(text, place, to));
            case 8 -> keep(text, pick(16) - 1, is);
            case 9 -> keepKind(text, pick(33) - 1, is);
            case 10 -> take(text, pick(8) - 1, other);
            case 11 -> same(15, "mend", () -> x.mend(text), mend(text));
            case 12 -> {
                int many = pick(33) - 1;
                same(10, "fill", () -> x.fill(text, sign, many), fill(text, sign, many));
            }
            case 13 -> {
                if (pick(5) == 0) {
                    same(6, "clear", () -> x.clear(text), sift(text, List.of()));
                }
            }
            default -> {
                int many = pick(6);
                for (int i = 0; i < many; i++) {
                    int one = sign();
                    int end = isText(text) ? row(text).size() : 0;
                    same(2, "add", () -> x.add(text, one), insert(text, end, one));
                }
            }
        }
    }

    private Object put(int text, int place, int sign) {
        if (!isText(text) || place < 0 || place >= row(text).size()) {
            return NO_PLACE;
        }
        return isSign(sign) ? acted(row(text).set(place, sign)) : NO_VALUE;
    }

    private Object insert(int text, int place, int sign) {
        if (!isText(text) || place < 0 || place > row(text).size()) {
            return NO_PLACE;
        }
        if (!isSign(sign)) {
            return NO_VALUE;
        }
        if (row(text).size() == 30) {
            return refused();
        }
        row(text).add(place, sign);
        return acted(row(text).size());
    }

    private Object drop(int text, int place) {
        if (!isText(text) || place < 0 || place >= row(text).size()) {
            return NO_PLACE;
        }
        return acted(row(text).remove(place));
    }

    private Object become(int text, int into, int from, int to) {
        if (!isText(text) || !isText(into)) {
            return NO_PLACE;
        }
        texts.set(into, new ArrayList<>(row(text).subList(from, to < 0 ? row(text).size() : to)));
        return acted(row(into).size());
    }

    private Object join(int text, int other) {
        if (!isText(text) || !isText(other)) {
            return NO_PLACE;
        }
        if (row(text).size() + row(other).size() > 30) {
            return refused();
        }
        row(text).addAll(new ArrayList<>(row(other)));
        return acted(row(text).size());
    }

    private Object turn(int text) {
        if (!isText(text)) {
            return NO_PLACE;
        }
        List<Integer> was = new ArrayList<>(row(text));
        Collections.reverse(row(text));
        return acted(was.equals(row(text)) ? 0 : 1);
    }

    private Object fill(int text, int from, int many) {
        if (!isText(text)) {
            return NO_PLACE;
        }
        if (!isSign(from) || many < 0 || many > 30 || from + many > 256) {
            return NO_VALUE;
        }
        int had = row(text).size();
        row(text).clear();
        for (int i = 0; i < many; i++) {
            row(text).add(from + i);
        }
        return acted(had);
    }

    private Object cut(int text, int from, int to) {
        if (!isText(text) || from < 0 || from > to || to > row(text).size()) {
            return NO_PLACE;
        }
        return become(text, text, from, to);
    }

    private Object sift(int text, List<Integer> staying) {
        if (!isText(text)) {
            return NO_PLACE;
        }
        int had = row(text).size();
        texts.set(text, new ArrayList<>(staying));
        return acted(had - staying.size());
    }

    private List<Integer> rowOrNone(int text) {
        return isText(text) ? row(text) : List.of();
    }

    private void keep(int text, int question, boolean is) {
        Object want = NO_VALUE;
        if (!isText(text)) {
            want = NO_PLACE;
        } else if (question >= 0 && question <= 13) {
            want = sift(text, rowOrNone(text).stream()
                .filter(sign -> PlainModel.isSo(sign, question) == is).collect(Collectors.toList()));
        }
        same(12, "keep", () -> x.keep(text, question, is), want);
    }

    private void keepKind(int text, int kind, boolean is) {
        Object want = NO_VALUE;
        if (!isText(text)) {
            want = NO_PLACE;
        } else if (kind >= 0 && kind <= 30) {
            want = sift(text, rowOrNone(text).stream()
                .filter(sign -> PlainModel.KIND[sign] == kind == is).collect(Collectors.toList()));
        }
        same(13, "keepKind", () -> x.keepKind(text, kind, is), want);
    }

    private void take(int text, int k, int into) {
        Object want = NO_PLACE;
        List<Integer> begins = PlainModel.row(rowOrNone(text));
        if (isText(into) && k >= 0 && k < begins.size()) {
            int from = begins.get(k);
            want = become(text, into, from, from + PlainModel.longest(row(text), from));
        }
        Object due = want;
        same(14, "take", () -> x.take(text, k, into), due);
    }

    private Object mend(int text) {
        List<Integer> staying = new ArrayList<>();
        for (int sign : rowOrNone(text)) {
            if (PlainModel.isSo(sign, staying.isEmpty() ? 11 : 12)) {
                staying.add(sign);
            }
        }
        return sift(text, staying);
    }

    private static String joined(List<Integer> numbers) {
        return numbers.stream().map(String::valueOf).collect(Collectors.joining(" "));
    }

    private static int sortAt(List<Integer> row, int place) {
        return PlainModel.sort(row.subList(place, place + PlainModel.longest(row, place)));
    }

    /** After each act: what it can have changed, of one text. */
    private void askOne() {
        int text = pick(3);
        int other = pick(3);
        List<Integer> row = row(text);
        String signs = " of " + row;
        same(30, "signs", () -> x.signs(text), joined(row));
        same(45, "back" + signs, () -> x.back(text), PlainModel.back(row));
        same(46, "fewest" + signs, () -> x.fewest(text), PlainModel.fewest(row));
        same(51, "digest", () -> x.digest(), digest());
        same(36, "alike" + signs, () -> x.alike(text, other),
            row.stream().map(sign -> PlainModel.KIND[sign]).toList()
                .equals(row(other).stream().map(sign -> PlainModel.KIND[sign]).toList()));
        int set = row.size() < 2 ? 0 : pick(1 << row.size() - 1) << 1;
        int few = set & pick(1 << 30) & pick(1 << 30);
        same(47, "parted at " + set + signs, () -> x.parted(text, set), PlainModel.parted(row, set));
        same(47, "parted at " + few + signs, () -> x.parted(text, few), PlainModel.parted(row, few));
        int cuts = PlainModel.cuts(row);
        same(47, "parted at its cuts" + signs, () -> x.parted(text, cuts), PlainModel.row(row).size());
        int place = place(text);
        same(29, "sign at " + place + signs, () -> x.sign(text, place),
            place < 0 || place >= row.size() ? NO_PLACE : row.get(place));
    }

    /** At the end of a run: all that can be asked of each text. */
    private void askAll() {
        for (int number = 0; number < 3; number++) {
            int text = number;
            List<Integer> row = row(text);
            String signs = " of " + row;
            same(28, "length" + signs, () -> x.length(text), row.size());
            same(31, "kindsOf" + signs, () -> x.kindsOf(text),
                joined(row.stream().map(sign -> PlainModel.KIND[sign]).toList()));
            same(37, "isName" + signs, () -> x.isName(text), PlainModel.isName(row));
            same(38, "fault" + signs, () -> x.fault(text), PlainModel.fault(row));
            same(41, "pieces" + signs, () -> x.pieces(text), PlainModel.row(row).size());
            same(43, "sorts" + signs, () -> x.sorts(text),
                joined(PlainModel.row(row).stream().map(place -> sortAt(row, place)).toList()));
            same(44, "cuts" + signs, () -> x.cuts(text), PlainModel.cuts(row));
            askQuestions(text, row);
            askPlaces(text, row);
            askPieces(text, row);
        }
        int[] house = house();
        for (int number = 0; number <= 4; number++) {
            int what = number;
            same(48, "house " + what, () -> x.house(what), house[what]);
        }
        same(50, "isSound", () -> x.isSound(), true);
    }

    private void askQuestions(int text, List<Integer> row) {
        String signs = " of " + row;
        for (int number = 0; number <= 13; number++) {
            int question = number;
            List<Integer> places = new ArrayList<>();
            for (int place = 0; place < row.size(); place++) {
                if (PlainModel.isSo(row.get(place), question)) {
                    places.add(place);
                }
            }
            boolean isNone = places.isEmpty();
            same(32, "count " + question + signs, () -> x.count(text, question), places.size());
            same(34, "isAll " + question + signs, () -> x.isAll(text, question),
                places.size() == row.size());
            same(35, "first " + question + signs, () -> x.first(text, question, false),
                isNone ? -1 : places.get(0));
            same(35, "last " + question + signs, () -> x.first(text, question, true),
                isNone ? -1 : places.get(places.size() - 1));
        }
        for (int number = 0; number <= 30; number++) {
            int kind = number;
            same(33, "countKind " + kind + signs, () -> x.countKind(text, kind),
                row.stream().filter(sign -> PlainModel.KIND[sign] == kind).count());
        }
    }

    private void askPlaces(int text, List<Integer> row) {
        for (int number = -1; number <= row.size(); number++) {
            int place = number;
            boolean isPlace = place >= 0 && place < row.size();
            same(40, "longest at " + place + " of " + row, () -> x.longest(text, place),
                isPlace ? PlainModel.longest(row, place) : NO_PLACE);
            int to = place + pick(5);
            boolean isSpan = isPlace && place < to && to <= row.size();
            same(39, "sort from " + place + " to " + to + " of " + row, () -> x.sort(text, place, to),
                isSpan ? PlainModel.sort(row.subList(place, to)) : NO_PLACE);
        }
    }

    private void askPieces(int text, List<Integer> row) {
        List<Integer> begins = PlainModel.row(row);
        for (int number = -1; number <= begins.size(); number++) {
            int k = number;
            for (int thing = -1; thing <= 3; thing++) {
                int what = thing;
                Object want = NO_PLACE;
                if (k >= 0 && k < begins.size()) {
                    int begin = begins.get(k);
                    want = switch (what) {
                        case 0 -> begin;
                        case 1 -> PlainModel.longest(row, begin);
                        case 2 -> sortAt(row, begin);
                        default -> NO_VALUE;
                    };
                }
                Object due = want;
                same(42, "piece " + k + " " + what + " of " + row, () -> x.piece(text, k, what), due);
            }
        }
    }

    private int[] house() {
        int signs = texts.stream().mapToInt(List::size).sum();
        int names = (int) texts.stream().filter(PlainModel::isName).count();
        return new int[] {signs, acts, refusals, 0, names};
    }

    private long digest() {
        long d = 8005;
        for (List<Integer> row : texts) {
            d = d * 31 + row.size();
            for (int sign : row) {
                d = (d * 31 + sign) * 31 + PlainModel.KIND[sign];
            }
            for (int number = 0; number <= 13; number++) {
                int question = number;
                d = d * 31 + row.stream().filter(sign -> PlainModel.isSo(sign, question)).count();
            }
            d = d * 31 + PlainModel.fault(row);
            d = d * 31 + PlainModel.row(row).size();
            d = d * 31 + PlainModel.cuts(row);
            d = d * 31 + PlainModel.fewest(row);
        }
        for (int value : house()) {
            d = d * 31 + value;
        }
        return d * 31 + 1;
    }
}
