/** Counts what is asked and what is wrong, and tells each wrong answer with its promise. */
final class Tally {

    private static int asked;
    private static int wrong;
    private static String sentence = "";

    private Tally() {
    }

    /** The words of the document that the answers from here on are held to. */
    static void sentence(int promise, String words) {
        sentence = "promise " + promise + ", \"" + words + "\": ";
    }

    static void due(String call, Object got, Object want) {
        asked++;
        if (!want.equals(got)) {
            wrong++;
            System.out.println(sentence + call + " answered " + got + ", due is " + want);
        }
    }

    static void end() {
        System.out.println(wrong == 0
            ? "all " + asked + " answers are as due"
            : wrong + " of " + asked + " answers are not as due");
        if (wrong != 0 || asked == 0) {
            System.exit(1);
        }
    }
}
