import java.util.Arrays;

/**
 * A run of calls on one object, each written as in the document, with the answer that is due. Each
 * call is held to the terms, too: one that throws changes nothing, one that is REFUSED is counted
 * and changes nothing else, an act is counted once, and what only asks changes nothing.
 */
final class Run {

    static final String NO_PLACE = Calls.NO_PLACE;
    static final String NO_VALUE = Calls.NO_VALUE;
    static final int NONE = -1;
    static final int REFUSED = -9;

    static final String[] NO_TEXTS = {"-1", "3", "MIN", "MAX"};
    static final String[] NO_SIGNS = {"-1", "256", "MIN", "MAX"};
    static final String[] NO_KINDS = {"-1", "31", "MIN", "MAX"};
    static final String[] NO_QUESTIONS = {"-1", "14", "MIN", "MAX"};

    private static final int ACTS = 1;
    private static final int REFUSALS = 2;
    private static final int KNOCKS = 3;

    private final Kindcutter x = new Kindcutter();
    private int calls;

    /** A new object whose texts from 0 on are these. */
    static Run of(String... texts) {
        Run run = new Run();
        for (int text = 0; text < texts.length; text++) {
            for (char sign : texts[text].toCharArray()) {
                run.answer("add(" + text + ", " + (int) sign + ")");
            }
        }
        return run;
    }

    /** The call with each of these words for its %, each on a new object with these texts. */
    static void each(String call, String[] words, Object want, String... texts) {
        for (String word : words) {
            of(texts).due(call.replace("%", word), want);
        }
    }

    Run due(String call, Object want) {
        String[] texts = texts();
        int[] house = house();
        Tally.due(call + " of " + Arrays.toString(texts), answer(call), String.valueOf(want));
        String name = call.substring(0, call.indexOf('('));
        boolean isThrown = String.valueOf(want).startsWith("throws.");
        boolean isAct = Calls.ACTS.contains(name) && !isThrown;
        boolean isRefused = isAct && Integer.valueOf(REFUSED).equals(want);
        if (isRefused) {
            house[REFUSALS]++;
        } else if (isAct) {
            house[ACTS]++;
        } else if (name.equals("knock")) {
            house[KNOCKS]++;
        }
        if (!isAct || isRefused) {
            Tally.due("texts after " + call, Arrays.toString(texts()), Arrays.toString(texts));
        }
        Tally.due("house() after " + call, Arrays.toString(house()), Arrays.toString(house));
        return this;
    }

    /** The signs of the texts from 0 on, each as signs() tells them. */
    Run holds(String... signs) {
        for (int text = 0; text < signs.length; text++) {
            due("signs(" + text + ")", signs[text]);
        }
        return this;
    }

    /** The call again and again, without a look at what it answers. */
    Run times(int many, String call) {
        for (int i = 0; i < many; i++) {
            answer(call);
        }
        return this;
    }

    private String answer(String call) {
        calls++;
        if (calls > Calls.MOST) {
            throw new IllegalStateException("more calls than the document lets be used");
        }
        return Calls.answer(x, call);
    }

    private String[] texts() {
        return new String[] {answer("signs(0)"), answer("signs(1)"), answer("signs(2)")};
    }

    /** All that is counted; what can be told from the texts is left out. */
    private int[] house() {
        int[] house = new int[KNOCKS + 1];
        for (int what = ACTS; what <= KNOCKS; what++) {
            house[what] = Integer.parseInt(answer("house(" + what + ")"));
        }
        return house;
    }
}
