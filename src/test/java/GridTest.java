import java.util.ArrayList;
import java.util.Arrays;
import java.util.LinkedHashSet;
import java.util.List;
import java.util.Set;

/**
 * Each call with each set of edges as arguments, beside the plain model: on texts without signs, with
 * one and with 30, and with so many that two are just short enough or just too long.
 */
public final class GridTest {

    private static final int LEAST = Integer.MIN_VALUE;
    private static final int MOST = Integer.MAX_VALUE;

    private static final String ALL_SORTS = "ab1 \t12_$+<-(\u00a0\0\u00ad\u00b2a\0\u00ad9  =~\u00f7\u00d7Z1\u00ff";

    private static final String[][] STATES = {
        {"", "a", ALL_SORTS},
        {ALL_SORTS.substring(0, 14), ALL_SORTS.substring(14), ALL_SORTS.substring(0, 15)},
        {"-".repeat(30), "a".repeat(29), "12"},
        {" +", "aba", "\0"},
    };

    private static final String[] SHOWN = {"signs(0)", "signs(1)", "signs(2)", "house(0)", "house(1)",
        "house(2)", "house(3)", "house(4)"};

    public static void main(String[] args) {
        for (String[] texts : STATES) {
            for (int number = 0; number < Calls.ALL.size(); number++) {
                String[] words = Calls.ALL.get(number).split(" ");
                Tally.sentence(number + 2, Arrays.toString(words));
                grid(texts, words, new ArrayList<>());
            }
        }
        Tally.end();
    }

    private static void grid(String[] texts, String[] words, List<Object> arguments) {
        if (arguments.size() == words.length - 1) {
            call(texts, words[0], arguments.toArray());
            return;
        }
        for (Object argument : edges(words[arguments.size() + 1], texts, arguments)) {
            List<Object> longer = new ArrayList<>(arguments);
            longer.add(argument);
            grid(texts, words, longer);
        }
    }

    private static void call(String[] texts, String name, Object[] arguments) {
        Kindcutter x = new Kindcutter();
        PlainCutter plain = new PlainCutter();
        for (int text = 0; text < 3; text++) {
            for (char sign : texts[text].toCharArray()) {
                x.add(text, sign);
                plain.add(text, sign);
            }
        }
        String call = name + Arrays.toString(arguments);
        Tally.due(call, Calls.answer(x, name, arguments), Calls.answer(plain, name, arguments));
        for (String shown : SHOWN) {
            Tally.due(shown + " after " + call, Calls.answer(x, shown), Calls.answer(plain, shown));
        }
    }

    private static Set<Object> edges(String what, String[] texts, List<Object> arguments) {
        int text = arguments.isEmpty() ? 0 : arguments.get(0) instanceof Integer first ? first : 0;
        int many = text >= 0 && text <= 2 ? texts[text].length() : 1;
        return switch (what) {
            case "text" -> set(LEAST, -1, 0, 1, 2, 3, MOST);
            case "place", "k" -> set(LEAST, -1, 0, 1, many - 1, many, many + 1, 29, 30, 31, MOST);
            case "sign" -> set(LEAST, -1, 0, 1, 64, 226, 227, 254, 255, 256, MOST);
            case "many" -> set(LEAST, -1, 0, 1, 2, 29, 30, 31, 256, MOST);
            case "kind" -> set(LEAST, -1, 0, 1, 2, 15, 25, 30, 31, MOST);
            case "question" -> set(LEAST, -1, 0, 1, 6, 7, 11, 12, 13, 14, MOST);
            case "what" -> set(LEAST, -1, 0, 1, 2, 3, 4, 5, MOST);
            case "set" -> set(LEAST, LEAST | 2, -1, 0, 1, 2, 3, 4, 1 << many - 1, 1 << many,
                (1 << many - 1) - 2, (1 << many) - 2, 1 << 29, 1 << 30, MOST);
            case "is" -> new LinkedHashSet<>(List.of(true, false));
            default -> throw new IllegalStateException(what);
        };
    }

    private static Set<Object> set(Integer... numbers) {
        return new LinkedHashSet<>(Arrays.asList(numbers));
    }
}
