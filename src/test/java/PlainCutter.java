import java.util.ArrayList;
import java.util.Collections;
import java.util.List;
import java.util.function.IntPredicate;
import java.util.stream.Collectors;
import java.util.stream.IntStream;

/** Each call of the face once more, on lists and by PlainModel; slow, and nothing of the class. */
final class PlainCutter {

    private static final int NONE = -1;
    private static final int REFUSED = -9;

    private final List<List<Integer>> texts = new ArrayList<>();
    private int acts;
    private int refusals;
    private int knocks;

    PlainCutter() {
        for (int text = 0; text < 3; text++) {
            texts.add(new ArrayList<>());
        }
    }

    private static void place(boolean isThere) {
        if (!isThere) {
            throw new IndexOutOfBoundsException();
        }
    }

    private static void value(boolean isLet) {
        if (!isLet) {
            throw new IllegalArgumentException();
        }
    }

    private static boolean isSign(int sign) {
        return sign >= 0 && sign <= 255;
    }

    private static boolean isKind(int kind) {
        return kind >= 0 && kind <= 30;
    }

    private static boolean isQuestion(int question) {
        return question >= 0 && question <= 13;
    }

    private List<Integer> row(int text) {
        place(text >= 0 && text <= 2);
        return texts.get(text);
    }

    private static boolean has(List<Integer> row, int place) {
        return place >= 0 && place < row.size();
    }

    private int acted(int answer) {
        acts++;
        return answer;
    }

    private int refused() {
        refusals++;
        return REFUSED;
    }

    private int become(int text, List<Integer> row) {
        texts.set(text, new ArrayList<>(row));
        return acted(row.size());
    }

    private int sift(int text, IntPredicate stays) {
        int had = row(text).size();
        return had - become(text, row(text).stream().filter(stays::test).toList());
    }

    // ==== acts

    int add(int text, int sign) {
        return insert(text, row(text).size(), sign);
    }

    int put(int text, int place, int sign) {
        place(has(row(text), place));
        value(isSign(sign));
        return acted(row(text).set(place, sign));
    }

    int insert(int text, int place, int sign) {
        place(place == row(text).size() || has(row(text), place));
        value(isSign(sign));
        if (row(text).size() == 30) {
            return refused();
        }
        row(text).add(place, sign);
        return acted(row(text).size());
    }

    int drop(int text, int place) {
        place(has(row(text), place));
        return acted(row(text).remove(place));
    }

    int clear(int text) {
        return sift(text, sign -> false);
    }

    int copy(int text, int into) {
        row(into);
        return become(into, row(text));
    }

    int join(int text, int other) {
        List<Integer> both = new ArrayList<>(row(text));
        both.addAll(row(other));
        return both.size() > 30 ? refused() : become(text, both);
    }

    int turn(int text) {
        List<Integer> turned = new ArrayList<>(row(text));
        Collections.reverse(turned);
        int isOther = turned.equals(row(text)) ? 0 : 1;
        become(text, turned);
        return isOther;
    }

    int fill(int text, int from, int many) {
        int had = row(text).size();
        value(isSign(from));
        value(many >= 0 && many <= 30 && from + many <= 256);
        become(text, IntStream.range(from, from + many).boxed().toList());
        return had;
    }

    int cut(int text, int from, int to) {
        place(0 <= from && from <= to && to <= row(text).size());
        return become(text, row(text).subList(from, to));
    }

    int keep(int text, int question, boolean is) {
        row(text);
        value(isQuestion(question));
        return sift(text, sign -> PlainModel.isSo(sign, question) == is);
    }

    int keepKind(int text, int kind, boolean is) {
        row(text);
        value(isKind(kind));
        return sift(text, sign -> PlainModel.KIND[sign] == kind == is);
    }

    int take(int text, int k, int into) {
        row(into);
        return become(into, pieceAt(text, k));
    }

    int mend(int text) {
        List<Integer> staying = new ArrayList<>();
        for (int sign : row(text)) {
            if (PlainModel.isSo(sign, staying.isEmpty() ? 11 : 12)) {
                staying.add(sign);
            }
        }
        int had = row(text).size();
        return had - become(text, staying);
    }

    // ==== what is asked of signs

    int kind(int sign) {
        value(isSign(sign));
        return PlainModel.KIND[sign];
    }

    boolean ask(int sign, int question) {
        value(isSign(sign) && isQuestion(question));
        return PlainModel.isSo(sign, question);
    }

    int all(int sign) {
        value(isSign(sign));
        return sum(IntStream.rangeClosed(0, 13).filter(question -> PlainModel.isSo(sign, question)));
    }

    int nth(int kind, int n) {
        value(isKind(kind) && isSign(n));
        return span(0, 255).filter(sign -> PlainModel.KIND[sign] == kind).skip(n).findFirst().orElse(NONE);
    }

    int next(int question, int from, boolean is) {
        value(isQuestion(question) && isSign(from));
        return span(from, 255).filter(sign -> PlainModel.isSo(sign, question) == is)
            .findFirst().orElse(NONE);
    }

    int run(int question, int from) {
        value(isQuestion(question) && isSign(from));
        boolean is = PlainModel.isSo(from, question);
        return (int) span(from, 255).takeWhile(sign -> PlainModel.isSo(sign, question) == is).count();
    }

    int ofKind(int kind, int from, int to) {
        value(isKind(kind));
        return (int) span(from, to).filter(sign -> PlainModel.KIND[sign] == kind).count();
    }

    int ofQuestion(int question, int from, int to) {
        value(isQuestion(question));
        return (int) span(from, to).filter(sign -> PlainModel.isSo(sign, question)).count();
    }

    int kinds(int from, int to) {
        return sum(span(from, to).map(sign -> PlainModel.KIND[sign]).distinct());
    }

    int both(int kind, int question) {
        value(isKind(kind) && isQuestion(question));
        return (int) span(0, 255).filter(sign -> PlainModel.KIND[sign] == kind)
            .filter(sign -> PlainModel.isSo(sign, question)).count();
    }

    boolean within(int question, int other) {
        value(isQuestion(question) && isQuestion(other));
        return span(0, 255).filter(sign -> PlainModel.isSo(sign, question))
            .allMatch(sign -> PlainModel.isSo(sign, other));
    }

    int differ(int question, int other, int from) {
        value(isQuestion(question) && isQuestion(other));
        return span(from, 255)
            .filter(sign -> PlainModel.isSo(sign, question) != PlainModel.isSo(sign, other))
            .findFirst().orElse(NONE);
    }

    private static IntStream span(int from, int to) {
        value(isSign(from) && isSign(to) && from <= to);
        return IntStream.rangeClosed(from, to);
    }

    private static int sum(IntStream numbers) {
        return numbers.map(number -> 1 << number).sum();
    }

    // ==== what is asked of texts

    int length(int text) {
        return row(text).size();
    }

    int sign(int text, int place) {
        place(has(row(text), place));
        return row(text).get(place);
    }

    String signs(int text) {
        return joined(row(text));
    }

    String kindsOf(int text) {
        return joined(kindsIn(text));
    }

    int count(int text, int question) {
        return places(text, question).size();
    }

    int countKind(int text, int kind) {
        row(text);
        value(isKind(kind));
        return Collections.frequency(kindsIn(text), kind);
    }

    boolean isAll(int text, int question) {
        return places(text, question).size() == row(text).size();
    }

    int first(int text, int question, boolean isLast) {
        List<Integer> places = places(text, question);
        return places.isEmpty() ? NONE : places.get(isLast ? places.size() - 1 : 0);
    }

    boolean alike(int text, int other) {
        return kindsIn(text).equals(kindsIn(other));
    }

    boolean isName(int text) {
        return PlainModel.isName(row(text));
    }

    int fault(int text) {
        return PlainModel.fault(row(text));
    }

    int sort(int text, int from, int to) {
        place(0 <= from && from < to && to <= row(text).size());
        return PlainModel.sort(row(text).subList(from, to));
    }

    int longest(int text, int place) {
        place(has(row(text), place));
        return PlainModel.longest(row(text), place);
    }

    int pieces(int text) {
        return PlainModel.row(row(text)).size();
    }

    int piece(int text, int k, int what) {
        List<Integer> piece = pieceAt(text, k);
        value(what >= 0 && what <= 2);
        int[] told = {PlainModel.row(row(text)).get(k), piece.size(), PlainModel.sort(piece)};
        return told[what];
    }

    String sorts(int text) {
        List<Integer> sorts = new ArrayList<>();
        for (int k = 0; k < pieces(text); k++) {
            sorts.add(PlainModel.sort(pieceAt(text, k)));
        }
        return joined(sorts);
    }

    int cuts(int text) {
        return PlainModel.cuts(row(text));
    }

    int back(int text) {
        return PlainModel.back(row(text));
    }

    int fewest(int text) {
        return PlainModel.fewest(row(text));
    }

    int parted(int text, int set) {
        int size = row(text).size();
        value(set >= 0 && IntStream.range(0, 31).filter(k -> (set & 1 << k) != 0)
            .allMatch(k -> k >= 1 && k <= size - 1));
        return PlainModel.parted(row(text), set);
    }

    private List<Integer> pieceAt(int text, int k) {
        List<Integer> begins = PlainModel.row(row(text));
        place(k >= 0 && k < begins.size());
        int begin = begins.get(k);
        return row(text).subList(begin, begin + PlainModel.longest(row(text), begin));
    }

    private List<Integer> kindsIn(int text) {
        return row(text).stream().map(sign -> PlainModel.KIND[sign]).toList();
    }

    private List<Integer> places(int text, int question) {
        List<Integer> row = row(text);
        value(isQuestion(question));
        return IntStream.range(0, row.size())
            .filter(place -> PlainModel.isSo(row.get(place), question)).boxed().toList();
    }

    private static String joined(List<Integer> numbers) {
        return numbers.stream().map(String::valueOf).collect(Collectors.joining(" "));
    }

    // ==== the whole

    int house(int what) {
        value(what >= 0 && what <= 4);
        int signs = texts.stream().mapToInt(List::size).sum();
        int names = (int) texts.stream().filter(PlainModel::isName).count();
        return new int[] {signs, acts, refusals, knocks, names}[what];
    }

    int knock() {
        knocks++;
        return knocks;
    }

    boolean isSound() {
        return true;
    }

    long digest() {
        List<Integer> values = new ArrayList<>();
        for (int text = 0; text < 3; text++) {
            values.add(length(text));
            for (int sign : row(text)) {
                values.add(sign);
                values.add(PlainModel.KIND[sign]);
            }
            for (int question = 0; question <= 13; question++) {
                values.add(count(text, question));
            }
            values.addAll(List.of(fault(text), pieces(text), cuts(text), fewest(text)));
        }
        for (int what = 0; what <= 4; what++) {
            values.add(house(what));
        }
        values.add(1);
        return PlainModel.checksum(values);
    }
}
