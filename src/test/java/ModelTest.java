import java.util.List;

/** Long runs of all calls beside the plain model: each answer has to be the same, throws too. */
public final class ModelTest {

    private static final int RUNS = 600;

    /** Signs that make pieces of all sorts often; each other one comes too, but seldom. */
    private static final String COMMON = "aZ_$19 \t\u001c\0\u00ad\u007f+<-(\u00a0\u00b5\u00d7";

    private static final List<String> ACTS =
        Calls.ALL.stream().filter(call -> Calls.ACTS.contains(call.split(" ")[0])).toList();

    private final Kindcutter x = new Kindcutter();
    private final PlainCutter plain = new PlainCutter();
    private final int run;
    private long state;

    private ModelTest(int number) {
        run = number;
        state = number * 7919L + 1;
    }

    public static void main(String[] args) {
        for (int number = 0; number < RUNS; number++) {
            ModelTest test = new ModelTest(number);
            for (int call = 0; call < Calls.MOST; call++) {
                test.call(call);
            }
        }
        Tally.end();
    }

    /** The same numbers each time: a plain row of remainders. */
    private int pick(int below) {
        state = state * 6364136223846793005L + 1442695040888963407L;
        return (int) ((state >>> 33) % below);
    }

    /** Half of all calls are acts, and of these each third one adds a sign. */
    private String pickCall() {
        if (pick(2) == 0) {
            return Calls.ALL.get(pick(Calls.ALL.size()));
        }
        return pick(3) == 0 ? "add text sign" : ACTS.get(pick(ACTS.size()));
    }

    private void call(int number) {
        String[] words = pickCall().split(" ");
        int text = text();
        Object[] arguments = new Object[words.length - 1];
        for (int i = 0; i < arguments.length; i++) {
            arguments[i] = i == 0 && words[1].equals("text") ? text : argument(words[i + 1], text);
        }
        Tally.sentence(Calls.ALL.indexOf(String.join(" ", words)) + 2, "run " + run + ", call " + number);
        Tally.due(words[0] + List.of(arguments), Calls.answer(x, words[0], arguments),
            Calls.answer(plain, words[0], arguments));
    }

    /** Now and then one that is not let, just beside the first or the last one that is. */
    private Object argument(String what, int text) {
        int many = text >= 0 && text <= 2 ? plain.length(text) : 1;
        return switch (what) {
            case "text" -> text();
            case "place" -> pick(many + 3) - 1;
            case "sign" -> sign();
            case "kind" -> pick(33) - 1;
            case "question" -> pick(16) - 1;
            case "is" -> pick(2) == 0;
            case "k" -> pick(many + 2) - 1;
            case "many" -> pick(4) == 0 ? pick(33) - 1 : pick(8);
            case "what" -> pick(7) - 1;
            case "set" -> set(text, many);
            default -> throw new IllegalStateException(what);
        };
    }

    private int text() {
        return pick(40) == 0 ? pick(2) * 4 - 1 : pick(3);
    }

    private int sign() {
        if (pick(40) == 0) {
            return pick(2) * 257 - 1;
        }
        return pick(4) == 0 ? pick(256) : COMMON.charAt(pick(COMMON.length()));
    }

    private int set(int text, int many) {
        int cuts = text >= 0 && text <= 2 ? plain.cuts(text) : 0;
        int some = many == 0 ? 0 : pick(1 << many) & ~1;
        return switch (pick(5)) {
            case 0 -> cuts;
            case 1 -> cuts | some;
            case 2 -> cuts & some;
            case 3 -> cuts ^ 1 << pick(many + 1);
            default -> some;
        };
    }
}
