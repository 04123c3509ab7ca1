/** Promises 16 to 27: what is asked of signs; sentence by sentence. */
public final class SignsTest {

    private static final String VALUE = "Throws IllegalArgumentException if ";
    private static final String SPAN = "from or to not 0 to 255, or from above to";

    /** Section 1: each kind with its spans. */
    private static final int[][] KINDS = {
        {1, 65, 90, 192, 214, 216, 222},
        {2, 97, 122, 181, 181, 223, 246, 248, 255},
        {5, 170, 170, 186, 186},
        {9, 48, 57},
        {11, 178, 179, 185, 185, 188, 190},
        {12, 32, 32, 160, 160},
        {15, 0, 31, 127, 159},
        {16, 173, 173},
        {20, 45, 45},
        {21, 40, 40, 91, 91, 123, 123},
        {22, 41, 41, 93, 93, 125, 125},
        {23, 95, 95},
        {24, 33, 35, 37, 39, 42, 42, 44, 44, 46, 46, 47, 47, 58, 58, 59, 59, 63, 63, 64, 64, 92, 92,
            161, 161, 167, 167, 182, 182, 183, 183, 191, 191},
        {25, 43, 43, 60, 62, 124, 124, 126, 126, 172, 172, 177, 177, 215, 215, 247, 247},
        {26, 36, 36, 162, 165},
        {27, 94, 94, 96, 96, 168, 168, 175, 175, 180, 180, 184, 184},
        {28, 166, 166, 169, 169, 174, 174, 176, 176},
        {29, 171, 171},
        {30, 187, 187},
    };

    /** Section 1: the kinds that are not told there. */
    private static final int[] KINDS_OF_NONE = {0, 3, 4, 6, 7, 8, 10, 13, 14, 17, 18, 19};

    /** Section 2: the spans of the signs of which each question is so. */
    private static final int[][] QUESTIONS = {
        {0, 255},
        {65, 90, 97, 122, 170, 170, 181, 181, 186, 186, 192, 214, 216, 246, 248, 255},
        {48, 57},
        {48, 57, 65, 90, 97, 122, 170, 170, 181, 181, 186, 186, 192, 214, 216, 246, 248, 255},
        {65, 90, 192, 214, 216, 222},
        {97, 122, 170, 170, 181, 181, 186, 186, 223, 246, 248, 255},
        {},
        {9, 13, 28, 32},
        {32, 32, 160, 160},
        {0, 31, 127, 159},
        {40, 41, 60, 60, 62, 62, 91, 91, 93, 93, 123, 123, 125, 125, 171, 171, 187, 187},
        {36, 36, 65, 90, 95, 95, 97, 122, 162, 165, 170, 170, 181, 181, 186, 186, 192, 214, 216, 246,
            248, 255},
        {0, 8, 14, 27, 36, 36, 48, 57, 65, 90, 95, 95, 97, 122, 127, 159, 162, 165, 170, 170, 173, 173,
            181, 181, 186, 186, 192, 214, 216, 246, 248, 255},
        {0, 8, 14, 27, 127, 159, 173, 173},
    };

    public static void main(String[] args) {
        kind();
        ask();
        all();
        nth();
        next();
        nextWithout();
        run();
        ofKind();
        ofQuestion();
        kinds();
        both();
        within();
        differ();
        Tally.end();
    }

    private static void sentence(int promise, String words) {
        Tally.sentence(promise, words);
    }

    private static boolean isIn(int[] spans, int from, int sign) {
        for (int i = from; i < spans.length; i += 2) {
            if (sign >= spans[i] && sign <= spans[i + 1]) {
                return true;
            }
        }
        return false;
    }

    /** One call of a new object, so that none is used too often. */
    private static void due(String call, Object want) {
        Run.of().due(call, want);
    }

    private static void kind() {
        sentence(16, "Returns its KIND");
        for (int[] row : KINDS) {
            for (int sign = 0; sign <= 255; sign++) {
                if (isIn(row, 1, sign)) {
                    due("kind(" + sign + ")", row[0]);
                }
            }
        }
        sentence(16, VALUE + "sign is not 0 to 255");
        Run.of().due("kind(0)", 15).due("kind(255)", 2);
        Run.each("kind(%)", Run.NO_SIGNS, Run.NO_VALUE);
    }

    private static void ask() {
        sentence(17, "Returns whether it is so of the SIGN");
        for (int question = 0; question <= 13; question++) {
            for (int sign = 0; sign <= 255; sign++) {
                due("ask(" + sign + ", " + question + ")", isIn(QUESTIONS[question], 0, sign));
            }
        }
        sentence(17, VALUE + "sign is not 0 to 255, or question not 0 to 13");
        Run.of().due("ask(0, 0)", true).due("ask(255, 0)", true).due("ask(0, 13)", true)
            .due("ask(255, 13)", false);
        Run.each("ask(%, 0)", Run.NO_SIGNS, Run.NO_VALUE);
        Run.each("ask(%, 13)", Run.NO_SIGNS, Run.NO_VALUE);
        Run.each("ask(0, %)", Run.NO_QUESTIONS, Run.NO_VALUE);
        Run.each("ask(255, %)", Run.NO_QUESTIONS, Run.NO_VALUE);
        Run.each("ask(%, 14)", Run.NO_SIGNS, Run.NO_VALUE);
    }

    private static void all() {
        sentence(18, "Returns the set of the QUESTIONS that are so of it");
        for (int sign = 0; sign <= 255; sign++) {
            int want = 0;
            for (int question = 0; question <= 13; question++) {
                want += isIn(QUESTIONS[question], 0, sign) ? 1 << question : 0;
            }
            due("all(" + sign + ")", want);
        }
        sentence(18, "the least set, the greatest number in a set");
        Run.of().due("all(33)", 1).due("all(173)", 1 + 4096 + 8192).due("all(9)", 1 + 128 + 512);
        sentence(18, VALUE + "sign is not 0 to 255");
        Run.of().due("all(0)", 1 + 512 + 4096 + 8192).due("all(255)", 1 + 2 + 8 + 32 + 2048 + 4096);
        Run.each("all(%)", Run.NO_SIGNS, Run.NO_VALUE);
    }

    private static void nth() {
        sentence(19, "Returns the SIGN that has this KIND and so many lesser ones with it");
        Run.of().due("nth(1, 0)", 65).due("nth(1, 25)", 90).due("nth(1, 26)", 192).due("nth(1, 55)", 222)
            .due("nth(15, 0)", 0).due("nth(15, 31)", 31).due("nth(15, 32)", 127).due("nth(15, 64)", 159)
            .due("nth(2, 0)", 97).due("nth(2, 58)", 255).due("nth(16, 0)", 173);
        sentence(19, "NONE without");
        Run.of().due("nth(1, 56)", Run.NONE).due("nth(15, 65)", Run.NONE).due("nth(2, 59)", Run.NONE)
            .due("nth(16, 1)", Run.NONE).due("nth(5, 1)", 186).due("nth(5, 2)", Run.NONE);
        for (int kind : KINDS_OF_NONE) {
            due("nth(" + kind + ", 0)", Run.NONE);
        }
        sentence(19, VALUE + "kind is not 0 to 30");
        Run.of().due("nth(0, 0)", Run.NONE).due("nth(30, 0)", 187);
        Run.each("nth(%, 0)", Run.NO_KINDS, Run.NO_VALUE);
        sentence(19, "or n not 0 to 255");
        Run.of().due("nth(2, 255)", Run.NONE).due("nth(0, 255)", Run.NONE).due("nth(30, 1)", Run.NONE);
        Run.each("nth(1, %)", Run.NO_SIGNS, Run.NO_VALUE);
        Run.each("nth(0, %)", Run.NO_SIGNS, Run.NO_VALUE);
        Run.each("nth(31, %)", Run.NO_SIGNS, Run.NO_VALUE);
    }

    private static void next() {
        sentence(20, "Returns the least SIGN, not less than that, of which it is so");
        Run.of().due("next(2, 0, true)", 48).due("next(2, 47, true)", 48).due("next(2, 48, true)", 48)
            .due("next(2, 57, true)", 57).due("next(8, 33, true)", 160).due("next(0, 0, true)", 0)
            .due("next(0, 255, true)", 255).due("next(1, 255, true)", 255);
        sentence(20, "(or is not)");
        Run.of().due("next(2, 48, false)", 58).due("next(2, 47, false)", 47).due("next(9, 0, false)", 32)
            .due("next(2, 255, false)", 255).due("next(6, 0, false)", 0).due("next(1, 216, false)", 247);
    }

    private static void nextWithout() {
        sentence(20, "NONE without");
        Run.of().due("next(2, 58, true)", Run.NONE).due("next(6, 0, true)", Run.NONE)
            .due("next(6, 255, true)", Run.NONE).due("next(8, 161, true)", Run.NONE)
            .due("next(2, 255, true)", Run.NONE);
        Run.of().due("next(0, 0, false)", Run.NONE).due("next(0, 255, false)", Run.NONE)
            .due("next(1, 247, false)", 247).due("next(1, 248, false)", Run.NONE)
            .due("next(1, 255, false)", Run.NONE);
        sentence(20, VALUE + "question is not 0 to 13");
        Run.of().due("next(13, 0, true)", 0).due("next(13, 160, true)", 173)
            .due("next(13, 174, true)", Run.NONE);
        Run.each("next(%, 0, true)", Run.NO_QUESTIONS, Run.NO_VALUE);
        Run.each("next(%, 0, false)", Run.NO_QUESTIONS, Run.NO_VALUE);
        sentence(20, "or from not 0 to 255");
        Run.each("next(0, %, true)", Run.NO_SIGNS, Run.NO_VALUE);
        Run.each("next(6, %, false)", Run.NO_SIGNS, Run.NO_VALUE);
        Run.each("next(14, %, true)", Run.NO_SIGNS, Run.NO_VALUE);
    }

    private static void run() {
        sentence(21, "Returns how many SIGNS from that one on tell the same to it as that one");
        Run.of().due("run(2, 0)", 48).due("run(2, 47)", 1).due("run(2, 48)", 10).due("run(2, 57)", 1)
            .due("run(7, 9)", 5).due("run(7, 28)", 5).due("run(7, 14)", 14).due("run(10, 60)", 1)
            .due("run(10, 61)", 1).due("run(10, 40)", 2);
        sentence(21, "till the last SIGN, without one that does not");
        Run.of().due("run(2, 58)", 198).due("run(5, 248)", 8).due("run(5, 255)", 1).due("run(6, 255)", 1)
            .due("run(0, 0)", 256).due("run(6, 0)", 256).due("run(0, 255)", 1).due("run(13, 174)", 82);
        sentence(21, VALUE + "question is not 0 to 13");
        Run.of().due("run(13, 0)", 9);
        Run.each("run(%, 0)", Run.NO_QUESTIONS, Run.NO_VALUE);
        sentence(21, "or from not 0 to 255");
        Run.each("run(0, %)", Run.NO_SIGNS, Run.NO_VALUE);
        Run.each("run(6, %)", Run.NO_SIGNS, Run.NO_VALUE);
        Run.each("run(14, %)", Run.NO_SIGNS, Run.NO_VALUE);
    }

    private static void ofKind() {
        sentence(22, "Returns how many SIGNS of the SPAN have this KIND");
        for (int[] row : KINDS) {
            int many = 0;
            for (int i = 1; i < row.length; i += 2) {
                many += row[i + 1] - row[i] + 1;
            }
            due("ofKind(" + row[0] + ", 0, 255)", many);
        }
        for (int kind : KINDS_OF_NONE) {
            due("ofKind(" + kind + ", 0, 255)", 0);
        }
        sentence(22, "a SPAN: from one to another one that is not less, both with");
        Run.of().due("ofKind(1, 90, 192)", 2).due("ofKind(1, 91, 191)", 0).due("ofKind(1, 65, 90)", 26)
            .due("ofKind(25, 215, 215)", 1).due("ofKind(25, 214, 214)", 0).due("ofKind(15, 0, 0)", 1)
            .due("ofKind(2, 255, 255)", 1).due("ofKind(25, 215, 216)", 1).due("ofKind(25, 214, 215)", 1);
        sentence(22, VALUE + "kind is not 0 to 30, " + SPAN);
        Run.of().due("ofKind(0, 0, 0)", 0).due("ofKind(30, 187, 187)", 1).due("ofKind(30, 0, 255)", 1);
        Run.each("ofKind(%, 0, 255)", Run.NO_KINDS, Run.NO_VALUE);
        Run.each("ofKind(15, %, 255)", Run.NO_SIGNS, Run.NO_VALUE);
        Run.each("ofKind(15, 0, %)", Run.NO_SIGNS, Run.NO_VALUE);
        Run.each("ofKind(15, %, %)", Run.NO_SIGNS, Run.NO_VALUE);
        Run.of().due("ofKind(1, 1, 0)", Run.NO_VALUE).due("ofKind(1, 255, 254)", Run.NO_VALUE)
            .due("ofKind(1, 255, 0)", Run.NO_VALUE).due("ofKind(1, MAX, MIN)", Run.NO_VALUE)
            .due("ofKind(1, MIN, MAX)", Run.NO_VALUE).due("ofKind(31, 1, 0)", Run.NO_VALUE);
    }

    private static void ofQuestion() {
        sentence(23, "Returns of how many SIGNS of the SPAN it is so");
        int[] many = {256, 117, 10, 127, 56, 61, 0, 10, 2, 65, 10, 123, 190, 57};
        for (int question = 0; question <= 13; question++) {
            due("ofQuestion(" + question + ", 0, 255)", many[question]);
        }
        sentence(23, "a SPAN: from one to another one that is not less, both with");
        Run.of().due("ofQuestion(7, 13, 28)", 2).due("ofQuestion(7, 14, 27)", 0)
            .due("ofQuestion(7, 32, 32)", 1).due("ofQuestion(7, 33, 33)", 0).due("ofQuestion(7, 8, 9)", 1)
            .due("ofQuestion(9, 0, 0)", 1).due("ofQuestion(5, 255, 255)", 1)
            .due("ofQuestion(0, 254, 255)", 2).due("ofQuestion(0, 0, 1)", 2);
        sentence(23, VALUE + "question is not 0 to 13, " + SPAN);
        Run.of().due("ofQuestion(0, 0, 0)", 1).due("ofQuestion(13, 173, 173)", 1);
        Run.each("ofQuestion(%, 0, 255)", Run.NO_QUESTIONS, Run.NO_VALUE);
        Run.each("ofQuestion(0, %, 255)", Run.NO_SIGNS, Run.NO_VALUE);
        Run.each("ofQuestion(0, 0, %)", Run.NO_SIGNS, Run.NO_VALUE);
        Run.each("ofQuestion(0, %, %)", Run.NO_SIGNS, Run.NO_VALUE);
        Run.of().due("ofQuestion(0, 1, 0)", Run.NO_VALUE).due("ofQuestion(0, 255, 254)", Run.NO_VALUE)
            .due("ofQuestion(0, 255, 0)", Run.NO_VALUE).due("ofQuestion(0, MAX, MIN)", Run.NO_VALUE)
            .due("ofQuestion(0, MIN, MAX)", Run.NO_VALUE).due("ofQuestion(14, 1, 0)", Run.NO_VALUE);
    }

    private static void kinds() {
        sentence(24, "Returns the set of all KINDS that SIGNS of the SPAN have");
        int every = 0;
        for (int[] row : KINDS) {
            every += 1 << row[0];
        }
        due("kinds(0, 255)", every);
        sentence(24, "a SPAN: from one to another one that is not less, both with");
        Run.of().due("kinds(0, 31)", 1 << 15).due("kinds(0, 32)", 1 << 15 | 1 << 12)
            .due("kinds(31, 33)", 1 << 15 | 1 << 12 | 1 << 24).due("kinds(32, 32)", 1 << 12)
            .due("kinds(0, 0)", 1 << 15).due("kinds(255, 255)", 1 << 2)
            .due("kinds(254, 255)", 1 << 2).due("kinds(247, 255)", 1 << 2 | 1 << 25);
        sentence(24, "the greatest number that is in a set");
        Run.of().due("kinds(187, 187)", 1 << 30).due("kinds(171, 171)", 1 << 29)
            .due("kinds(186, 187)", 1 << 30 | 1 << 5);
        sentence(24, VALUE + "from or to is not 0 to 255, or from above to");
        Run.each("kinds(%, 255)", Run.NO_SIGNS, Run.NO_VALUE);
        Run.each("kinds(0, %)", Run.NO_SIGNS, Run.NO_VALUE);
        Run.each("kinds(%, %)", Run.NO_SIGNS, Run.NO_VALUE);
        Run.of().due("kinds(1, 0)", Run.NO_VALUE).due("kinds(255, 254)", Run.NO_VALUE)
            .due("kinds(255, 0)", Run.NO_VALUE).due("kinds(MAX, MIN)", Run.NO_VALUE)
            .due("kinds(MIN, MAX)", Run.NO_VALUE);
    }

    private static void both() {
        sentence(25, "Returns of how many SIGNS with this KIND it is so");
        for (int[] row : KINDS) {
            for (int question = 0; question <= 13; question++) {
                int want = 0;
                for (int sign = 0; sign <= 255; sign++) {
                    want += isIn(row, 1, sign) && isIn(QUESTIONS[question], 0, sign) ? 1 : 0;
                }
                due("both(" + row[0] + ", " + question + ")", want);
            }
        }
        Run.of().due("both(15, 7)", 9).due("both(15, 13)", 56).due("both(12, 7)", 1)
            .due("both(25, 10)", 2).due("both(2, 0)", 59).due("both(2, 6)", 0);
        sentence(25, "of a KIND that no SIGN has");
        for (int kind : KINDS_OF_NONE) {
            due("both(" + kind + ", 0)", 0);
        }
        sentence(25, VALUE + "kind is not 0 to 30");
        Run.of().due("both(30, 0)", 1).due("both(0, 13)", 0);
        Run.each("both(%, 0)", Run.NO_KINDS, Run.NO_VALUE);
        Run.each("both(%, 13)", Run.NO_KINDS, Run.NO_VALUE);
        sentence(25, "or question not 0 to 13");
        Run.of().due("both(16, 13)", 1).due("both(15, 0)", 65);
        Run.each("both(0, %)", Run.NO_QUESTIONS, Run.NO_VALUE);
        Run.each("both(30, %)", Run.NO_QUESTIONS, Run.NO_VALUE);
        Run.each("both(31, %)", Run.NO_QUESTIONS, Run.NO_VALUE);
    }

    /** The pairs as section 2 lists them, beside each with itself, with 0, and 6 with all. */
    private static void within() {
        sentence(26, "Returns whether the first one is WITHIN the other one");
        String listed = " 1-3 1-11 1-12 2-3 2-12 3-12 4-1 4-3 4-11 4-12 5-1 5-3 5-11 5-12 11-12 13-12 ";
        for (int question = 0; question <= 13; question++) {
            for (int other = 0; other <= 13; other++) {
                boolean want = question == other || other == 0 || question == 6
                    || listed.contains(" " + question + "-" + other + " ");
                due("within(" + question + ", " + other + ")", want);
            }
        }
        sentence(26, VALUE + "question or other is not 0 to 13");
        Run.each("within(%, 0)", Run.NO_QUESTIONS, Run.NO_VALUE);
        Run.each("within(0, %)", Run.NO_QUESTIONS, Run.NO_VALUE);
        Run.each("within(6, %)", Run.NO_QUESTIONS, Run.NO_VALUE);
        Run.each("within(%, %)", Run.NO_QUESTIONS, Run.NO_VALUE);
    }

    private static void differ() {
        sentence(27, "Returns the least SIGN, not less than that, of which just one of both is so");
        Run.of().due("differ(0, 6, 0)", 0).due("differ(0, 6, 255)", 255).due("differ(7, 9, 0)", 0)
            .due("differ(9, 7, 0)", 0).due("differ(7, 9, 9)", 14).due("differ(7, 9, 28)", 32)
            .due("differ(9, 7, 28)", 32).due("differ(7, 8, 32)", 160).due("differ(1, 3, 0)", 48)
            .due("differ(1, 3, 57)", 57).due("differ(5, 6, 255)", 255);
        sentence(27, "NONE without");
        Run.of().due("differ(1, 3, 58)", Run.NONE).due("differ(1, 3, 255)", Run.NONE)
            .due("differ(8, 6, 160)", 160).due("differ(8, 6, 161)", Run.NONE)
            .due("differ(0, 6, 254)", 254).due("differ(12, 11, 174)", Run.NONE);
        sentence(27, "or the same");
        for (int question = 0; question <= 13; question++) {
            due("differ(" + question + ", " + question + ", 0)", Run.NONE);
        }
        sentence(27, VALUE + "question or other is not 0 to 13");
        Run.of().due("differ(13, 0, 0)", 9).due("differ(0, 13, 0)", 9).due("differ(13, 12, 0)", 36);
        Run.each("differ(%, 0, 0)", Run.NO_QUESTIONS, Run.NO_VALUE);
        Run.each("differ(0, %, 0)", Run.NO_QUESTIONS, Run.NO_VALUE);
        Run.each("differ(%, %, 0)", Run.NO_QUESTIONS, Run.NO_VALUE);
        sentence(27, "or from not 0 to 255");
        Run.each("differ(0, 6, %)", Run.NO_SIGNS, Run.NO_VALUE);
        Run.each("differ(0, 0, %)", Run.NO_SIGNS, Run.NO_VALUE);
    }
}
