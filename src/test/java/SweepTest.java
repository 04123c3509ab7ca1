/** Promises 16 to 27 with all arguments that are let: each sign, kind, question and span there is. */
public final class SweepTest {

    private static final int SIGNS = 256;
    private static final int KINDS = 31;
    private static final int QUESTIONS = 14;
    private static final int NONE = -1;

    private static final boolean[][] IS_SO = new boolean[QUESTIONS][SIGNS];

    private static Kindcutter cutter;
    private static int calls;

    public static void main(String[] args) {
        for (int question = 0; question < QUESTIONS; question++) {
            for (int sign = 0; sign < SIGNS; sign++) {
                IS_SO[question][sign] = PlainModel.isSo(sign, question);
            }
        }
        signs();
        nth();
        next();
        run();
        ofKind();
        ofQuestion();
        kinds();
        both();
        within();
        differ();
        Tally.end();
    }

    /** A new object when one was used for as many calls as the document lets be made. */
    private static Kindcutter x() {
        if (calls % Calls.MOST == 0) {
            cutter = new Kindcutter();
        }
        calls++;
        return cutter;
    }

    private static String call(String name, int... arguments) {
        StringBuilder call = new StringBuilder(name);
        for (int argument : arguments) {
            call.append(' ').append(argument);
        }
        return call.toString();
    }

    private static void signs() {
        for (int sign = 0; sign < SIGNS; sign++) {
            Tally.sentence(16, "Returns its KIND");
            Tally.due(call("kind", sign), x().kind(sign), PlainModel.KIND[sign]);
            int all = 0;
            Tally.sentence(17, "Returns whether it is so of the SIGN");
            for (int question = 0; question < QUESTIONS; question++) {
                Tally.due(call("ask", sign, question), x().ask(sign, question), IS_SO[question][sign]);
                all += IS_SO[question][sign] ? 1 << question : 0;
            }
            Tally.sentence(18, "Returns the set of the QUESTIONS that are so of it");
            Tally.due(call("all", sign), x().all(sign), all);
        }
    }

    private static void nth() {
        Tally.sentence(19, "the SIGN that has this KIND and so many lesser ones with it; NONE without");
        for (int kind = 0; kind < KINDS; kind++) {
            int n = 0;
            for (int sign = 0; sign < SIGNS; sign++) {
                if (PlainModel.KIND[sign] == kind) {
                    Tally.due(call("nth", kind, n), x().nth(kind, n), sign);
                    n++;
                }
            }
            for (; n < SIGNS; n++) {
                Tally.due(call("nth", kind, n), x().nth(kind, n), NONE);
            }
        }
    }

    /** From the last sign down, so that what is found last is the least. */
    private static void next() {
        Tally.sentence(20, "the least SIGN, not less than that, of which it is so (or is not); NONE without");
        for (int question = 0; question < QUESTIONS; question++) {
            int so = NONE;
            int notSo = NONE;
            for (int from = SIGNS - 1; from >= 0; from--) {
                so = IS_SO[question][from] ? from : so;
                notSo = IS_SO[question][from] ? notSo : from;
                Tally.due(call("next so", question, from), x().next(question, from, true), so);
                Tally.due(call("next not so", question, from), x().next(question, from, false), notSo);
            }
        }
    }

    private static void run() {
        Tally.sentence(21, "how many SIGNS from that one on tell the same to it as that one");
        for (int question = 0; question < QUESTIONS; question++) {
            int many = 0;
            for (int from = SIGNS - 1; from >= 0; from--) {
                boolean isLonger = from < SIGNS - 1 && IS_SO[question][from] == IS_SO[question][from + 1];
                many = isLonger ? many + 1 : 1;
                Tally.due(call("run", question, from), x().run(question, from), many);
            }
        }
    }

    private static void ofKind() {
        Tally.sentence(22, "Returns how many SIGNS of the SPAN have this KIND");
        for (int kind = 0; kind < KINDS; kind++) {
            for (int from = 0; from < SIGNS; from++) {
                int many = 0;
                for (int to = from; to < SIGNS; to++) {
                    many += PlainModel.KIND[to] == kind ? 1 : 0;
                    Tally.due(call("ofKind", kind, from, to), x().ofKind(kind, from, to), many);
                }
            }
        }
    }

    private static void ofQuestion() {
        Tally.sentence(23, "Returns of how many SIGNS of the SPAN it is so");
        for (int question = 0; question < QUESTIONS; question++) {
            for (int from = 0; from < SIGNS; from++) {
                int many = 0;
                for (int to = from; to < SIGNS; to++) {
                    many += IS_SO[question][to] ? 1 : 0;
                    Tally.due(call("ofQuestion", question, from, to),
                        x().ofQuestion(question, from, to), many);
                }
            }
        }
    }

    private static void kinds() {
        Tally.sentence(24, "Returns the set of all KINDS that SIGNS of the SPAN have");
        for (int from = 0; from < SIGNS; from++) {
            int set = 0;
            for (int to = from; to < SIGNS; to++) {
                set |= 1 << PlainModel.KIND[to];
                Tally.due(call("kinds", from, to), x().kinds(from, to), set);
            }
        }
    }

    private static void both() {
        Tally.sentence(25, "Returns of how many SIGNS with this KIND it is so");
        for (int kind = 0; kind < KINDS; kind++) {
            for (int question = 0; question < QUESTIONS; question++) {
                int many = 0;
                for (int sign = 0; sign < SIGNS; sign++) {
                    many += PlainModel.KIND[sign] == kind && IS_SO[question][sign] ? 1 : 0;
                }
                Tally.due(call("both", kind, question), x().both(kind, question), many);
            }
        }
    }

    private static void within() {
        Tally.sentence(26, "Returns whether the first one is WITHIN the other one");
        for (int question = 0; question < QUESTIONS; question++) {
            for (int other = 0; other < QUESTIONS; other++) {
                boolean isWithin = true;
                for (int sign = 0; sign < SIGNS; sign++) {
                    isWithin &= IS_SO[other][sign] || !IS_SO[question][sign];
                }
                Tally.due(call("within", question, other), x().within(question, other), isWithin);
            }
        }
    }

    private static void differ() {
        Tally.sentence(27, "the least SIGN, not less than that, of which just one of both is so; NONE without");
        for (int question = 0; question < QUESTIONS; question++) {
            for (int other = 0; other < QUESTIONS; other++) {
                int least = NONE;
                for (int from = SIGNS - 1; from >= 0; from--) {
                    least = IS_SO[question][from] != IS_SO[other][from] ? from : least;
                    Tally.due(call("differ", question, other, from),
                        x().differ(question, other, from), least);
                }
            }
        }
    }
}
