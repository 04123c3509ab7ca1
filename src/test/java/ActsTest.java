/** Promises 1 to 15: a new object, and the acts; sentence by sentence. */
public final class ActsTest {

    private static final String NO_TEXT = "Throws IndexOutOfBoundsException if there is no such TEXT";
    private static final String NO_TEXT_OR_PLACE = NO_TEXT + ", or no such PLACE in it";
    private static final String NO_TEXT_BOTH = NO_TEXT + " (both)";
    private static final String NO_SIGN = "Throws IllegalArgumentException if sign is not 0 to 255";
    private static final String FIRST_NAMED = "If several exceptions apply, the one that is named first";
    private static final String AHEAD = "exceptions go ahead of REFUSED";
    private static final String MANY = "Returns how many it has then";
    private static final String FULL = "REFUSED, if it has 30";

    private static final String A29 = "a".repeat(29);
    private static final String A30 = "a".repeat(30);

    public static void main(String[] args) {
        made();
        add();
        put();
        insert();
        drop();
        clear();
        copy();
        join();
        joinRefused();
        turn();
        fill();
        fillOutside();
        cut();
        keep();
        keepKind();
        take();
        takeThrows();
        mend();
        Tally.end();
    }

    private static void sentence(int promise, String words) {
        Tally.sentence(promise, words);
    }

    /** The numbers from one to another one, with " " between. */
    private static String numbers(int from, int to) {
        StringBuilder row = new StringBuilder().append(from);
        for (int number = from + 1; number <= to; number++) {
            row.append(' ').append(number);
        }
        return row.toString();
    }

    private static void made() {
        sentence(1, "Creates three TEXTS without SIGNS");
        Run.of().holds("", "", "")
            .due("length(0)", 0).due("length(1)", 0).due("length(2)", 0);
        Run.each("length(%)", Run.NO_TEXTS, Run.NO_PLACE);
        Run.of().due("house(0)", 0).due("house(1)", 0).due("house(2)", 0).due("house(3)", 0)
            .due("house(4)", 0);
        sentence(1, "each object has TEXTS of its own");
        Run one = Run.of();
        Run.of("abc", "d", "e").due("knock()", 1).due("length(0)", 3);
        one.holds("", "", "").due("house(1)", 0).due("house(3)", 0);
    }

    private static void add() {
        sentence(2, MANY);
        Run.of().due("add(0, 97)", 1).due("add(0, 98)", 2).due("add(0, 98)", 3).holds("97 98 98", "", "");
        Run.of("a", "b", "c").due("add(2, 50)", 2).due("add(1, 49)", 2)
            .holds("97", "98 49", "99 50");
        Run.of(A29).due("add(0, 98)", 30).due("sign(0, 29)", 98).due("length(0)", 30);
        sentence(2, FULL);
        Run.of(A30).due("add(0, 98)", Run.REFUSED).due("add(0, 97)", Run.REFUSED)
            .due("house(2)", 2).due("length(0)", 30);
        Run.of("", A30, A30).due("add(0, 98)", 1).due("add(1, 98)", Run.REFUSED)
            .due("add(2, 98)", Run.REFUSED);
        Run.of(A30).due("drop(0, 0)", 97).due("add(0, 98)", 30).due("add(0, 99)", Run.REFUSED);
        sentence(2, NO_TEXT);
        Run.each("add(%, 97)", Run.NO_TEXTS, Run.NO_PLACE, "a");
        sentence(2, NO_SIGN);
        Run.of().due("add(0, 0)", 1).due("add(0, 255)", 2).due("add(0, 127)", 3)
            .due("add(0, 128)", 4).holds("0 255 127 128");
        Run.each("add(0, %)", Run.NO_SIGNS, Run.NO_VALUE, "a");
        sentence(2, FIRST_NAMED);
        Run.each("add(%, 256)", Run.NO_TEXTS, Run.NO_PLACE, "a");
        Run.each("add(3, %)", Run.NO_SIGNS, Run.NO_PLACE, "a");
        sentence(2, AHEAD);
        Run.each("add(0, %)", Run.NO_SIGNS, Run.NO_VALUE, A30);
        Run.each("add(%, 97)", Run.NO_TEXTS, Run.NO_PLACE, A30, A30, A30);
    }

    private static void put() {
        sentence(3, "Returns which it was");
        Run.of("abc", "d").due("put(0, 0, 120)", 97).due("put(0, 2, 122)", 99)
            .due("put(0, 1, 121)", 98).holds("120 121 122", "100", "");
        sentence(3, "becomes another one, or the same");
        Run.of("abc").due("put(0, 1, 98)", 98).due("house(1)", 4).holds("97 98 99");
        sentence(3, NO_TEXT_OR_PLACE);
        Run.each("put(%, 0, 97)", Run.NO_TEXTS, Run.NO_PLACE, "a");
        Run.each("put(0, %, 97)", new String[] {"-1", "0", "MIN", "MAX"}, Run.NO_PLACE, "", "a");
        Run.of("a").due("put(0, 0, 98)", 97).holds("98");
        Run.each("put(0, %, 97)", new String[] {"-1", "1", "29", "MIN", "MAX"}, Run.NO_PLACE, "a");
        Run.of(A30).due("put(0, 29, 98)", 97).due("put(0, 0, 99)", 97)
            .due("sign(0, 29)", 98).due("sign(0, 0)", 99).due("sign(0, 28)", 97);
        Run.each("put(0, %, 97)", new String[] {"-1", "30", "31", "MIN", "MAX"}, Run.NO_PLACE, A30);
        sentence(3, "a PLACE of a SIGN that went is none");
        Run.of("abc").due("drop(0, 0)", 97).due("put(0, 2, 97)", Run.NO_PLACE);
        sentence(3, NO_SIGN);
        Run.of("a").due("put(0, 0, 255)", 97).due("put(0, 0, 0)", 255).due("put(0, 0, 128)", 0)
            .due("put(0, 0, 127)", 128).holds("127");
        Run.each("put(0, 0, %)", Run.NO_SIGNS, Run.NO_VALUE, "a");
        sentence(3, FIRST_NAMED);
        Run.each("put(%, 0, 256)", Run.NO_TEXTS, Run.NO_PLACE, "a");
        Run.each("put(0, %, 256)", new String[] {"-1", "1", "MIN", "MAX"}, Run.NO_PLACE, "a");
        Run.each("put(1, 0, %)", Run.NO_SIGNS, Run.NO_PLACE, "a");
    }

    private static void insert() {
        sentence(4, MANY);
        Run.of("ad", "x").due("insert(0, 1, 98)", 3).due("insert(0, 2, 99)", 4)
            .due("insert(0, 0, 96)", 5).holds("96 97 98 99 100", "120", "");
        sentence(4, "or how many SIGNS it has: behind all");
        Run.of("ab").due("insert(0, 2, 99)", 3).due("insert(0, 3, 100)", 4).holds("97 98 99 100");
        Run.of().due("insert(2, 0, 97)", 1).due("insert(2, 1, 98)", 2).holds("", "", "97 98");
        Run.of(A29).due("insert(0, 29, 98)", 30).due("sign(0, 29)", 98).due("sign(0, 28)", 97);
        Run.of(A29).due("insert(0, 0, 98)", 30).due("sign(0, 0)", 98).due("sign(0, 1)", 97)
            .due("sign(0, 29)", 97);
        sentence(4, FULL);
        Run.of(A30).due("insert(0, 0, 98)", Run.REFUSED).due("insert(0, 29, 98)", Run.REFUSED)
            .due("insert(0, 30, 98)", Run.REFUSED).due("house(2)", 3).due("length(0)", 30);
        sentence(4, NO_TEXT + ", or place is not 0 to how many SIGNS it has");
        Run.each("insert(%, 0, 97)", Run.NO_TEXTS, Run.NO_PLACE, "a");
        Run.each("insert(0, %, 97)", new String[] {"-1", "1", "MIN", "MAX"}, Run.NO_PLACE);
        Run.each("insert(0, %, 97)", new String[] {"-1", "3", "MIN", "MAX"}, Run.NO_PLACE, "ab");
        Run.each("insert(0, %, 97)", new String[] {"-1", "30"}, Run.NO_PLACE, A29);
        sentence(4, NO_SIGN);
        Run.of().due("insert(0, 0, 0)", 1).due("insert(0, 0, 255)", 2).holds("255 0");
        Run.each("insert(0, 1, %)", Run.NO_SIGNS, Run.NO_VALUE, "ab");
        sentence(4, FIRST_NAMED);
        Run.each("insert(%, 0, 256)", Run.NO_TEXTS, Run.NO_PLACE, "a");
        Run.each("insert(0, 2, %)", Run.NO_SIGNS, Run.NO_PLACE, "a");
        Run.each("insert(0, -1, %)", Run.NO_SIGNS, Run.NO_PLACE, "a");
        sentence(4, AHEAD);
        Run.each("insert(0, %, 97)", new String[] {"-1", "31", "MIN", "MAX"}, Run.NO_PLACE, A30);
        Run.each("insert(0, 30, %)", Run.NO_SIGNS, Run.NO_VALUE, A30);
        Run.each("insert(0, 31, %)", Run.NO_SIGNS, Run.NO_PLACE, A30);
        Run.each("insert(%, 0, 97)", Run.NO_TEXTS, Run.NO_PLACE, A30, A30, A30);
    }

    private static void drop() {
        sentence(5, "A SIGN goes; those behind it move up. Returns which it was");
        Run.of("abcd", "x").due("drop(0, 1)", 98).holds("97 99 100", "120", "")
            .due("drop(0, 0)", 97).holds("99 100").due("drop(0, 1)", 100).holds("99")
            .due("drop(0, 0)", 99).holds("").due("drop(0, 0)", Run.NO_PLACE);
        Run.of("\u00ff\0").due("drop(0, 0)", 255).due("drop(0, 0)", 0);
        Run.of(A29 + "b").due("drop(0, 29)", 98).due("length(0)", 29).due("drop(0, 0)", 97)
            .due("length(0)", 28);
        sentence(5, NO_TEXT_OR_PLACE);
        Run.each("drop(%, 0)", Run.NO_TEXTS, Run.NO_PLACE, "a");
        Run.each("drop(0, %)", new String[] {"-1", "0", "MIN", "MAX"}, Run.NO_PLACE, "", "a");
        Run.each("drop(0, %)", new String[] {"-1", "1", "MIN", "MAX"}, Run.NO_PLACE, "a", "ab");
        Run.each("drop(0, %)", new String[] {"-1", "30", "31", "MIN", "MAX"}, Run.NO_PLACE, A30);
    }

    private static void clear() {
        sentence(6, "All SIGNS of a TEXT go. Returns how many they were");
        Run.of("abc", "d", "ef").due("clear(2)", 2).holds("97 98 99", "100", "")
            .due("clear(0)", 3).holds("", "100", "").due("clear(1)", 1).holds("", "", "");
        Run.of(A30).due("clear(0)", 30).holds("").due("add(0, 98)", 1).holds("98");
        sentence(6, "an act also if nothing is other by it");
        Run.of().due("clear(0)", 0).due("clear(0)", 0).due("house(1)", 2);
        sentence(6, NO_TEXT);
        Run.each("clear(%)", Run.NO_TEXTS, Run.NO_PLACE, "a", "b", "c");
    }

    private static void copy() {
        sentence(7, "A TEXT becomes as another one. Returns how many SIGNS it has");
        Run.of("abc", "defgh", "x").due("copy(0, 1)", 3).holds("97 98 99", "97 98 99", "120")
            .due("put(1, 0, 49)", 97).holds("97 98 99", "49 98 99", "120")
            .due("copy(1, 2)", 3).holds("97 98 99", "49 98 99", "49 98 99");
        sentence(7, "(or the same)");
        Run.of("abc").due("copy(0, 0)", 3).holds("97 98 99").due("house(1)", 4);
        Run.of().due("copy(1, 1)", 0).holds("", "", "");
        sentence(7, "of a TEXT without SIGNS, and of one with 30");
        Run.of("abc").due("copy(2, 0)", 0).holds("", "", "");
        Run.of(A30, "b").due("copy(0, 1)", 30).due("sign(1, 29)", 97).due("copy(0, 0)", 30)
            .due("copy(2, 0)", 0).holds("").due("length(1)", 30).due("copy(1, 1)", 30);
        sentence(7, "of a TEXT with one SIGN");
        Run.of("a", "bc").due("copy(0, 1)", 1).holds("97", "97", "").due("copy(0, 2)", 1)
            .due("copy(0, 0)", 1).holds("97", "97", "97");
        sentence(7, NO_TEXT_BOTH);
        Run.each("copy(%, 0)", Run.NO_TEXTS, Run.NO_PLACE, "a");
        Run.each("copy(0, %)", Run.NO_TEXTS, Run.NO_PLACE, "a");
        Run.each("copy(%, %)", Run.NO_TEXTS, Run.NO_PLACE, "a");
    }

    private static void join() {
        sentence(8, "The SIGNS of another TEXT come behind those of a TEXT, too. " + MANY);
        Run.of("ab", "cde", "x").due("join(0, 1)", 5).holds("97 98 99 100 101", "99 100 101", "120")
            .due("join(1, 2)", 4).holds("97 98 99 100 101", "99 100 101 120", "120");
        Run.of("ab").due("join(0, 1)", 2).due("join(1, 0)", 2).holds("97 98", "97 98", "");
        sentence(8, "of the same one: it has them twice then");
        Run.of("ab").due("join(0, 0)", 4).holds("97 98 97 98").due("join(0, 0)", 8)
            .holds("97 98 97 98 97 98 97 98");
        Run.of().due("join(2, 2)", 0).holds("", "", "");
        Run.of("\u00ff").due("join(0, 0)", 2).holds("255 255");
        sentence(8, "TEXTS with one SIGN");
        Run.of("a", "b").due("join(0, 1)", 2).due("join(1, 1)", 2).due("join(2, 1)", 2)
            .holds("97 98", "98 98", "98 98");
        sentence(8, NO_TEXT_BOTH);
        Run.each("join(%, 0)", Run.NO_TEXTS, Run.NO_PLACE, "a");
        Run.each("join(0, %)", Run.NO_TEXTS, Run.NO_PLACE, "a");
        Run.each("join(%, %)", Run.NO_TEXTS, Run.NO_PLACE, "a");
        sentence(8, AHEAD);
        Run.each("join(0, %)", Run.NO_TEXTS, Run.NO_PLACE, A30, A30, A30);
        Run.each("join(%, 0)", Run.NO_TEXTS, Run.NO_PLACE, A30, A30, A30);
    }

    private static void joinRefused() {
        sentence(8, "REFUSED, if these were more than 30");
        Run.of(A29, "b").due("join(0, 1)", 30).due("sign(0, 29)", 98).due("join(0, 1)", Run.REFUSED)
            .due("length(0)", 30);
        Run.of(A29, "bc").due("join(0, 1)", Run.REFUSED).due("join(1, 0)", Run.REFUSED)
            .due("house(2)", 2).due("length(1)", 2);
        Run.of("a".repeat(15)).due("join(0, 0)", 30).due("join(0, 0)", Run.REFUSED);
        Run.of("a".repeat(16)).due("join(0, 0)", Run.REFUSED).due("length(0)", 16);
        Run.of(A30, "b", A30).due("join(0, 1)", Run.REFUSED).due("join(1, 0)", Run.REFUSED)
            .due("join(0, 0)", Run.REFUSED).due("join(0, 2)", Run.REFUSED);
        Run.of(A30).due("join(0, 1)", 30).due("join(1, 0)", 30).due("length(1)", 30);
    }

    private static void turn() {
        sentence(9, "what was last is first. Returns 1 if another SIGN stands at some PLACE then");
        Run.of("abcd", "xy").due("turn(0)", 1).holds("100 99 98 97", "120 121", "")
            .due("turn(0)", 1).holds("97 98 99 100").due("turn(1)", 1).holds("97 98 99 100", "121 120");
        Run.of("abc").due("turn(0)", 1).holds("99 98 97");
        Run.of("abba!").due("turn(0)", 1).holds("33 97 98 98 97");
        Run.of("abca").due("turn(0)", 1).holds("97 99 98 97");
        Run.of("abbc").due("turn(0)", 1).holds("99 98 98 97");
        Run.of("\u00ff\u007f").due("turn(0)", 1).holds("127 255");
        Run.of(A29 + "b").due("turn(0)", 1).due("sign(0, 0)", 98).due("sign(0, 29)", 97);
        Run.of("a".repeat(14) + "bc" + "a".repeat(14)).due("turn(0)", 1).due("sign(0, 14)", 99)
            .due("sign(0, 15)", 98);
        sentence(9, "otherwise 0");
        Run.of().due("turn(0)", 0).due("house(1)", 1).holds("");
        Run.of("a").due("turn(0)", 0).holds("97");
        Run.of("aa", "aba", "abba").due("turn(0)", 0).due("turn(1)", 0).due("turn(2)", 0)
            .holds("97 97", "97 98 97", "97 98 98 97");
        Run.of(A30).due("turn(0)", 0).due("length(0)", 30);
        Run.of("ab").due("turn(0)", 1).due("clear(0)", 2).due("turn(0)", 0);
        sentence(9, NO_TEXT);
        Run.each("turn(%)", Run.NO_TEXTS, Run.NO_PLACE, "ab", "cd", "ef");
    }

    private static void fill() {
        sentence(10, "a row of SIGNS, each 1 more than the one ahead of it. Returns how many it had");
        Run.of("ab", "x").due("fill(0, 48, 3)", 2).holds("48 49 50", "120", "")
            .due("fill(0, 97, 1)", 3).holds("97", "120", "").due("fill(2, 7, 2)", 0)
            .holds("97", "120", "7 8");
        sentence(10, "many 0: the TEXT has no SIGN then");
        Run.of("ab").due("fill(0, 65, 0)", 2).holds("").due("fill(0, 65, 0)", 0);
        sentence(10, "many 30");
        Run.of("ab").due("fill(0, 0, 30)", 2).holds(numbers(0, 29)).due("fill(0, 65, 30)", 30)
            .holds(numbers(65, 94)).due("fill(0, 5, 2)", 30).holds("5 6");
        sentence(10, NO_TEXT);
        Run.each("fill(%, 65, 1)", Run.NO_TEXTS, Run.NO_PLACE, "a", "b", "c");
        sentence(10, FIRST_NAMED);
        Run.each("fill(%, 256, 1)", Run.NO_TEXTS, Run.NO_PLACE, "a");
        Run.each("fill(%, 65, 31)", Run.NO_TEXTS, Run.NO_PLACE, "a");
        Run.each("fill(%, 255, 2)", Run.NO_TEXTS, Run.NO_PLACE, "a");
    }

    private static void fillOutside() {
        sentence(10, "Throws IllegalArgumentException if from is not 0 to 255");
        Run.of().due("fill(0, 0, 1)", 0).holds("0").due("fill(0, 255, 1)", 1).holds("255");
        Run.each("fill(0, %, 1)", Run.NO_SIGNS, Run.NO_VALUE, "ab");
        Run.each("fill(0, %, 0)", Run.NO_SIGNS, Run.NO_VALUE, "ab");
        sentence(10, "or many not 0 to 30");
        Run.each("fill(0, 65, %)", new String[] {"-1", "31", "MIN", "MAX"}, Run.NO_VALUE, "ab");
        Run.each("fill(0, 0, %)", new String[] {"-1", "31", "256", "MAX"}, Run.NO_VALUE, "ab");
        Run.each("fill(0, 255, %)", new String[] {"-1", "-255", "MIN", "MAX"}, Run.NO_VALUE, "ab");
        sentence(10, "or both together are above 256");
        Run.of().due("fill(0, 226, 30)", 0).holds(numbers(226, 255)).due("fill(0, 227, 29)", 30)
            .holds(numbers(227, 255)).due("fill(0, 254, 2)", 29).holds("254 255")
            .due("fill(0, 255, 1)", 2).due("fill(0, 255, 0)", 1).holds("");
        Run.of("ab").due("fill(0, 227, 30)", Run.NO_VALUE).due("fill(0, 228, 29)", Run.NO_VALUE)
            .due("fill(0, 254, 3)", Run.NO_VALUE).due("fill(0, 255, 2)", Run.NO_VALUE)
            .due("fill(0, 255, 30)", Run.NO_VALUE);
        sentence(10, "both together would wrap around");
        Run.of("ab").due("fill(0, MAX, 30)", Run.NO_VALUE).due("fill(0, 255, MAX)", Run.NO_VALUE)
            .due("fill(0, MAX, MAX)", Run.NO_VALUE).due("fill(0, MIN, MIN)", Run.NO_VALUE);
    }

    private static void cut() {
        sentence(11, "from one up to another one (without that) stay. Returns how many stay");
        Run.of("abcdef", "x").due("cut(0, 1, 5)", 4).holds("98 99 100 101", "120", "")
            .due("cut(0, 0, 3)", 3).holds("98 99 100").due("cut(0, 1, 3)", 2).holds("99 100")
            .due("cut(0, 1, 2)", 1).holds("100");
        sentence(11, "all stay; an act also if nothing is other by it");
        Run.of("abc").due("cut(0, 0, 3)", 3).holds("97 98 99").due("house(1)", 4);
        Run.of(A29 + "b").due("cut(0, 0, 30)", 30).due("cut(0, 29, 30)", 1).holds("98");
        sentence(11, "a TEXT with one SIGN");
        Run.of("a").due("cut(0, 0, 1)", 1).holds("97").due("cut(0, 1, 1)", 0).holds("");
        sentence(11, "from as great as to: none stays");
        Run.of("abc").due("cut(0, 0, 0)", 0).holds("").due("cut(0, 0, 0)", 0);
        Run.of("abc").due("cut(0, 3, 3)", 0).holds("");
        Run.of("abc").due("cut(0, 1, 1)", 0).holds("");
        Run.of(A30).due("cut(0, 30, 30)", 0).holds("");
        sentence(11, NO_TEXT);
        Run.each("cut(%, 0, 0)", Run.NO_TEXTS, Run.NO_PLACE, "a", "b", "c");
        sentence(11, "or not 0 <= from <= to <= how many SIGNS it has");
        Run.each("cut(0, %, 2)", new String[] {"-1", "3", "MIN", "MAX"}, Run.NO_PLACE, "abc");
        Run.each("cut(0, 1, %)", new String[] {"0", "-1", "4", "MIN", "MAX"}, Run.NO_PLACE, "abc");
        Run.each("cut(0, %, %)", new String[] {"-1", "4", "MIN", "MAX"}, Run.NO_PLACE, "abc");
        Run.each("cut(0, 0, %)", new String[] {"-1", "1", "MAX"}, Run.NO_PLACE, "", "a");
        Run.each("cut(0, 0, %)", new String[] {"31", "MAX"}, Run.NO_PLACE, A30);
        Run.of("abc").due("cut(0, MIN, MAX)", Run.NO_PLACE).due("cut(0, MAX, MIN)", Run.NO_PLACE);
    }

    private static void keep() {
        sentence(12, "The SIGNS of which a QUESTION is so stay. Returns how many went");
        Run.of("a1 B2", "1").due("keep(0, 1, true)", 3).holds("97 66", "49", "");
        Run.of("1a2").due("keep(0, 2, true)", 1).holds("49 50");
        Run.of("a" + A29).due("keep(0, 1, true)", 0).due("length(0)", 30);
        Run.of("1" + "a".repeat(28) + "2").due("keep(0, 2, true)", 28).holds("49 50");
        sentence(12, "(or those of which it is not)");
        Run.of("a1 B2", "1").due("keep(0, 1, false)", 2).holds("49 32 50", "49", "");
        Run.of("1" + "a".repeat(28) + "2").due("keep(0, 2, false)", 2).due("length(0)", 28);
        sentence(12, "none goes, all go; an act also if nothing is other by it");
        Run.of("a1 ").due("keep(0, 0, true)", 0).due("keep(0, 6, false)", 0).due("house(1)", 5)
            .holds("97 49 32");
        Run.of("a1 ").due("keep(0, 0, false)", 3).holds("");
        Run.of(A30).due("keep(0, 6, true)", 30).holds("").due("keep(0, 6, true)", 0)
            .due("keep(0, 0, false)", 0);
        sentence(12, "a TEXT with one SIGN");
        Run.of("a", "b").due("keep(0, 1, true)", 0).due("keep(0, 2, false)", 0)
            .due("keep(0, 2, true)", 1).due("keep(1, 1, false)", 1).holds("", "");
        sentence(12, NO_TEXT);
        Run.each("keep(%, 0, true)", Run.NO_TEXTS, Run.NO_PLACE, "a");
        sentence(12, "Throws IllegalArgumentException if question is not 0 to 13");
        Run.of("a\0").due("keep(0, 13, true)", 1).holds("0").due("keep(0, 0, true)", 0);
        Run.each("keep(0, %, true)", Run.NO_QUESTIONS, Run.NO_VALUE, "a+");
        Run.each("keep(0, %, false)", Run.NO_QUESTIONS, Run.NO_VALUE, "a+");
        Run.each("keep(1, %, true)", Run.NO_QUESTIONS, Run.NO_VALUE, "a");
        sentence(12, FIRST_NAMED);
        Run.each("keep(%, 14, true)", Run.NO_TEXTS, Run.NO_PLACE, "a");
        Run.each("keep(3, %, false)", Run.NO_QUESTIONS, Run.NO_PLACE, "a");
    }

    private static void keepKind() {
        sentence(13, "The SIGNS of a KIND stay. Returns how many went");
        Run.of("a1b+c", "+").due("keepKind(0, 2, true)", 2).holds("97 98 99", "43", "");
        Run.of("+" + "a".repeat(28) + "+").due("keepKind(0, 25, true)", 28).holds("43 43");
        sentence(13, "(or those of all other KINDS)");
        Run.of("a1b+c", "+").due("keepKind(0, 2, false)", 3).holds("49 43", "43", "");
        sentence(13, "none goes, all go; an act also if nothing is other by it");
        Run.of("ab").due("keepKind(0, 2, true)", 0).due("keepKind(0, 0, false)", 0)
            .due("house(1)", 4).holds("97 98");
        Run.of("ab", A30).due("keepKind(0, 2, false)", 2).holds("").due("keepKind(0, 2, true)", 0)
            .due("keepKind(1, 0, true)", 30);
        sentence(13, "a TEXT with one SIGN");
        Run.of("a", "b").due("keepKind(0, 2, true)", 0).due("keepKind(0, 1, false)", 0)
            .due("keepKind(0, 1, true)", 1).due("keepKind(1, 2, false)", 1).holds("", "");
        sentence(13, NO_TEXT);
        Run.each("keepKind(%, 1, true)", Run.NO_TEXTS, Run.NO_PLACE, "a");
        sentence(13, "Throws IllegalArgumentException if kind is not 0 to 30");
        Run.of("a\u00bb").due("keepKind(0, 30, true)", 1).holds("187").due("keepKind(0, 0, true)", 1);
        Run.each("keepKind(0, %, true)", Run.NO_KINDS, Run.NO_VALUE, "a");
        Run.each("keepKind(0, %, false)", Run.NO_KINDS, Run.NO_VALUE, "a");
        Run.each("keepKind(1, %, true)", Run.NO_KINDS, Run.NO_VALUE, "a");
        sentence(13, FIRST_NAMED);
        Run.each("keepKind(%, 31, true)", Run.NO_TEXTS, Run.NO_PLACE, "a");
        Run.each("keepKind(3, %, false)", Run.NO_KINDS, Run.NO_PLACE, "a");
    }

    private static void take() {
        sentence(14, "A TEXT becomes a PIECE of a TEXT. Returns how many SIGNS it has then");
        Run.of("12ab  +", "vwxyz").due("take(0, 1, 1)", 2).holds("49 50 97 98 32 32 43", "97 98", "")
            .due("take(0, 0, 2)", 2).holds("49 50 97 98 32 32 43", "97 98", "49 50")
            .due("take(0, 3, 1)", 1).holds("49 50 97 98 32 32 43", "43", "49 50");
        sentence(14, "which stays, if it is another one");
        Run.of("1a", A30).due("take(0, 1, 1)", 1).holds("49 97", "97", "").due("take(0, 0, 1)", 1)
            .holds("49 97", "49", "");
        sentence(14, "the TEXT that becomes that PIECE, or the same");
        Run.of("12ab  +").due("take(0, 2, 0)", 2).holds("32 32").due("take(0, 0, 0)", 2)
            .holds("32 32").due("house(1)", 9);
        Run.of("1ab").due("take(0, 1, 0)", 2).holds("97 98");
        sentence(14, "a TEXT with one SIGN");
        Run.of("-", "bc").due("take(0, 0, 0)", 1).due("take(0, 0, 1)", 1).due("take(0, 0, 2)", 1)
            .holds("45", "45", "45");
        sentence(14, "a PIECE of 30 SIGNS; the last one of 30 PIECES");
        Run.of(A30).due("take(0, 0, 1)", 30).due("length(1)", 30).due("take(0, 0, 0)", 30);
        Run.of("-".repeat(29) + "(", "abc").due("take(0, 29, 1)", 1).due("signs(1)", "40")
            .due("take(0, 30, 1)", Run.NO_PLACE).due("take(0, 29, 0)", 1).holds("40", "40");
        Run.of("-" + "a".repeat(29)).due("take(0, 1, 0)", 29).due("length(0)", 29);
    }

    private static void takeThrows() {
        sentence(14, NO_TEXT_BOTH + ", or no such PIECE");
        Run.each("take(%, 0, 0)", Run.NO_TEXTS, Run.NO_PLACE, "a");
        Run.each("take(0, 0, %)", Run.NO_TEXTS, Run.NO_PLACE, "a");
        Run.each("take(%, 0, %)", Run.NO_TEXTS, Run.NO_PLACE, "a");
        Run.each("take(0, %, 1)", new String[] {"-1", "3", "4", "MIN", "MAX"}, Run.NO_PLACE, "ab1+ ");
        Run.each("take(0, %, 0)", new String[] {"-1", "1", "MIN", "MAX"}, Run.NO_PLACE, "ab");
        Run.each("take(1, %, 0)", new String[] {"-1", "0", "MIN", "MAX"}, Run.NO_PLACE, "ab");
        Run.each("take(1, %, 1)", new String[] {"-1", "0", "MIN", "MAX"}, Run.NO_PLACE, "ab");
    }

    private static void mend() {
        sentence(15, "one stays, if it is let behind those that stay. Returns how many went");
        Run.of("a b+c1", "1").due("mend(0)", 2).holds("97 98 99 49", "49", "");
        Run.of("a\0\t\u00ad_").due("mend(0)", 1).holds("97 0 173 95");
        sentence(15, "START, if none does so far");
        Run.of("12\0\u00ada\0001\u00ad").due("mend(0)", 4).holds("97 0 49 173");
        Run.of("1$2").due("mend(0)", 1).holds("36 50");
        sentence(15, "all go, none goes; an act also if nothing is other by it");
        Run.of("12 +\0").due("mend(0)", 5).holds("").due("mend(0)", 0).due("house(1)", 7);
        Run.of("a1").due("mend(0)", 0).holds("97 49");
        Run.of(A30, "1".repeat(30), "1".repeat(29) + "a").due("mend(0)", 0).due("length(0)", 30)
            .due("mend(1)", 30).due("mend(2)", 29).due("signs(2)", "97");
        Run.of("a" + "1".repeat(28) + " ").due("mend(0)", 1).due("length(0)", 29);
        sentence(15, "a TEXT with one SIGN");
        Run.of("a", "1", "\u00ad").due("mend(0)", 0).due("mend(1)", 1).due("mend(2)", 1)
            .holds("97", "", "");
        sentence(15, "a TEXT without SIGNS");
        Run.of().due("mend(0)", 0).due("mend(2)", 0).due("house(1)", 2);
        sentence(15, NO_TEXT);
        Run.each("mend(%)", Run.NO_TEXTS, Run.NO_PLACE, "1", "1", "1");
    }
}
