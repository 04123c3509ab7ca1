import java.math.BigInteger;
import java.util.ArrayList;
import java.util.List;

/** Signs, rows and pieces as the document tells them, by trying out all that can be. */
final class PlainModel {

    private static final String[] KIND_ROWS = {
        "1: 65-90, 192-214, 216-222",
        "2: 97-122, 181, 223-246, 248-255",
        "5: 170, 186",
        "9: 48-57",
        "11: 178, 179, 185, 188-190",
        "12: 32, 160",
        "15: 0-31, 127-159",
        "16: 173",
        "20: 45",
        "21: 40, 91, 123",
        "22: 41, 93, 125",
        "23: 95",
        "24: 33-35, 37-39, 42, 44, 46, 47, 58, 59, 63, 64, 92, 161, 167, 182, 183, 191",
        "25: 43, 60-62, 124, 126, 172, 177, 215, 247",
        "26: 36, 162-165",
        "27: 94, 96, 168, 175, 180, 184",
        "28: 166, 169, 174, 176",
        "29: 171",
        "30: 187",
    };

    static final int[] KIND = kinds();

    private static int[] kinds() {
        int[] kinds = new int[256];
        for (String row : KIND_ROWS) {
            String[] parts = row.split(": ");
            for (String span : parts[1].split(", ")) {
                String[] ends = span.split("-");
                for (int s = Integer.parseInt(ends[0]); s <= Integer.parseInt(ends[ends.length - 1]); s++) {
                    if (kinds[s] != 0) {
                        throw new IllegalStateException("two kinds of " + s);
                    }
                    kinds[s] = Integer.parseInt(parts[0]);
                }
            }
        }
        return kinds;
    }

    static boolean isSo(int sign, int question) {
        List<Integer> kinds = switch (question) {
            case 1 -> List.of(1, 2, 5);
            case 2 -> List.of(9);
            case 3 -> List.of(1, 2, 5, 9);
            case 4 -> List.of(1);
            case 5 -> List.of(2, 5);
            case 8 -> List.of(12);
            case 9 -> List.of(15);
            case 10 -> List.of(21, 22, 29, 30);
            case 11 -> List.of(1, 2, 5, 23, 26);
            case 13 -> List.of(16);
            default -> List.of();
        };
        if (kinds.contains(KIND[sign])) {
            return true;
        }
        return switch (question) {
            case 0 -> true;
            case 7 -> List.of(9, 10, 11, 12, 13, 28, 29, 30, 31, 32).contains(sign);
            case 10 -> sign == 60 || sign == 62;
            case 12 -> isSo(sign, 11) || isSo(sign, 2) || isSo(sign, 13);
            case 13 -> KIND[sign] == 15 && !isSo(sign, 7);
            default -> false;
        };
    }

    static boolean isName(List<Integer> signs) {
        return !signs.isEmpty() && fault(signs) == -1;
    }

    static int fault(List<Integer> signs) {
        for (int place = 0; place < signs.size(); place++) {
            if (!isSo(signs.get(place), place == 0 ? 11 : 12)) {
                return place;
            }
        }
        return signs.isEmpty() ? 0 : -1;
    }

    static int sort(List<Integer> signs) {
        if (signs.isEmpty()) {
            return -1;
        }
        if (isName(signs)) {
            return 0;
        }
        if (signs.stream().allMatch(sign -> isSo(sign, 2))) {
            return 1;
        }
        if (signs.stream().allMatch(sign -> isSo(sign, 7))) {
            return 2;
        }
        if (signs.stream().allMatch(sign -> KIND[sign] == 25)) {
            return 3;
        }
        return signs.size() == 1 ? 4 : -1;
    }

    static int longest(List<Integer> signs, int place) {
        for (int to = signs.size(); to > place; to--) {
            if (sort(signs.subList(place, to)) != -1) {
                return to - place;
            }
        }
        throw new IllegalStateException("no piece");
    }

    /** The places at which the pieces of the row begin. */
    static List<Integer> row(List<Integer> signs) {
        List<Integer> begins = new ArrayList<>();
        for (int place = 0; place < signs.size(); place += longest(signs, place)) {
            begins.add(place);
        }
        return begins;
    }

    static int cuts(List<Integer> signs) {
        return row(signs).stream().filter(place -> place > 0).mapToInt(place -> 1 << place).sum();
    }

    static int back(List<Integer> signs) {
        int cuts = 0;
        int end = signs.size();
        while (end > 0) {
            int from = 0;
            while (sort(signs.subList(from, end)) == -1) {
                from++;
            }
            cuts += from > 0 ? 1 << from : 0;
            end = from;
        }
        return cuts;
    }

    static int fewest(List<Integer> signs) {
        int[] need = new int[signs.size() + 1];
        for (int end = 1; end <= signs.size(); end++) {
            need[end] = Integer.MAX_VALUE;
            for (int from = 0; from < end; from++) {
                if (sort(signs.subList(from, end)) != -1) {
                    need[end] = Math.min(need[end], need[from] + 1);
                }
            }
        }
        return need[signs.size()];
    }

    /** -1 if what is cut there is no row of pieces; the set has to be a valid one. */
    static int parted(List<Integer> signs, int set) {
        int pieces = 0;
        int begin = 0;
        for (int end = 1; end <= signs.size(); end++) {
            if (end == signs.size() || (set & 1 << end) != 0) {
                if (sort(signs.subList(begin, end)) == -1) {
                    return -1;
                }
                pieces++;
                begin = end;
            }
        }
        return pieces;
    }

    /** Reckoned without any wrap-around; what is above 64 bits goes at the end. */
    static long checksum(List<Integer> values) {
        BigInteger d = BigInteger.valueOf(8005);
        for (int value : values) {
            d = d.multiply(BigInteger.valueOf(31)).add(BigInteger.valueOf(value));
        }
        return d.longValue();
    }
}
