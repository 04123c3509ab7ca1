/**
 * Signs by numbers 0 to 255, their kinds and the questions that are so of them; and three texts of
 * such signs, which are changed, sifted, mended to names and parted into pieces.
 */
public final class Kindcutter {

    private static final int NONE = -1;
    private static final int REFUSED = -9;

    private static final int LAST_SIGN = 255;
    private static final int LAST_KIND = 30;
    private static final int LAST_QUESTION = 13;
    private static final int LAST_HOUSE = 4;
    private static final int TEXTS = 3;
    private static final int ROOM = 30;

    private static final int NAME = 0;
    private static final int SINGLE = 4;

    private final Text[] texts;
    private int acts;
    private int refusals;
    private int knocks;

    public Kindcutter() {
        texts = new Text[TEXTS];
        for (int text = 0; text < TEXTS; text++) {
            texts[text] = new Text();
        }
    }

    // ==== acts

    public int add(int text, int sign) throws IndexOutOfBoundsException, IllegalArgumentException {
        Text changed = textAt(text);
        checkSign(sign);
        return inserted(changed, changed.size(), sign);
    }

    public int put(int text, int place, int sign)
            throws IndexOutOfBoundsException, IllegalArgumentException {
        Text changed = textAt(text);
        checkPlace(changed, place);
        checkSign(sign);
        int was = changed.signAt(place);
        changed.setSign(place, sign);
        return acted(was);
    }

    public int insert(int text, int place, int sign)
            throws IndexOutOfBoundsException, IllegalArgumentException {
        Text changed = textAt(text);
        if (place < 0 || place > changed.size()) {
            throw new IndexOutOfBoundsException();
        }
        checkSign(sign);
        return inserted(changed, place, sign);
    }

    public int drop(int text, int place) throws IndexOutOfBoundsException {
        Text changed = textAt(text);
        checkPlace(changed, place);
        int was = changed.signAt(place);
        changed.retain(changed.allPlaces() & ~(1 << place));
        return acted(was);
    }

    public int clear(int text) throws IndexOutOfBoundsException {
        return acted(textAt(text).retain(0));
    }

    public int copy(int text, int into) throws IndexOutOfBoundsException {
        Text taken = textAt(text);
        Text changed = textAt(into);
        changed.become(taken, 0, taken.size());
        return acted(changed.size());
    }

    public int join(int text, int other) throws IndexOutOfBoundsException {
        Text changed = textAt(text);
        Text joined = textAt(other);
        if (changed.size() + joined.size() > ROOM) {
            return refused();
        }
        changed.append(joined);
        return acted(changed.size());
    }

    public int turn(int text) throws IndexOutOfBoundsException {
        return acted(textAt(text).reverse() ? 1 : 0);
    }

    public int fill(int text, int from, int many)
            throws IndexOutOfBoundsException, IllegalArgumentException {
        Text changed = textAt(text);
        checkSign(from);
        if (many < 0 || many > ROOM || from + many > LAST_SIGN + 1) {
            throw new IllegalArgumentException();
        }
        int had = changed.retain(0);
        for (int i = 0; i < many; i++) {
            changed.insertSign(i, from + i);
        }
        return acted(had);
    }

    public int cut(int text, int from, int to) throws IndexOutOfBoundsException {
        Text changed = textAt(text);
        if (from < 0 || from > to || to > changed.size()) {
            throw new IndexOutOfBoundsException();
        }
        changed.become(changed, from, to);
        return acted(changed.size());
    }

    public int keep(int text, int question, boolean is)
            throws IndexOutOfBoundsException, IllegalArgumentException {
        Text changed = textAt(text);
        checkQuestion(question);
        return acted(sifted(changed, changed.placesOf(question), is));
    }

    public int keepKind(int text, int kind, boolean is)
            throws IndexOutOfBoundsException, IllegalArgumentException {
        Text changed = textAt(text);
        checkKind(kind);
        return acted(sifted(changed, changed.placesOfKind(kind), is));
    }

    public int take(int text, int k, int into) throws IndexOutOfBoundsException {
        Text taken = textAt(text);
        Text changed = textAt(into);
        int begin = beginOfPiece(taken, k);
        changed.become(taken, begin, begin + taken.longestAt(begin));
        return acted(changed.size());
    }

    public int mend(int text) throws IndexOutOfBoundsException {
        Text changed = textAt(text);
        int staying = 0;
        for (int place = 0; place < changed.size(); place++) {
            if (Signs.isLet(changed.signAt(place), staying == 0)) {
                staying |= 1 << place;
            }
        }
        return acted(changed.retain(staying));
    }

    // ==== what is asked of signs

    public int kind(int sign) throws IllegalArgumentException {
        checkSign(sign);
        return Signs.kindNumber(sign);
    }

    public boolean ask(int sign, int question) throws IllegalArgumentException {
        checkSign(sign);
        checkQuestion(question);
        return Signs.isSo(sign, question);
    }

    public int all(int sign) throws IllegalArgumentException {
        checkSign(sign);
        int questions = 0;
        for (int question = 0; question <= LAST_QUESTION; question++) {
            if (Signs.isSo(sign, question)) {
                questions |= 1 << question;
            }
        }
        return questions;
    }

    public int nth(int kind, int n) throws IllegalArgumentException {
        checkKind(kind);
        if (n < 0 || n > LAST_SIGN) {
            throw new IllegalArgumentException();
        }
        int lesser = 0;
        for (int sign = 0; sign <= LAST_SIGN; sign++) {
            if (Signs.kindNumber(sign) == kind) {
                if (lesser == n) {
                    return sign;
                }
                lesser++;
            }
        }
        return NONE;
    }

    public int next(int question, int from, boolean is) throws IllegalArgumentException {
        checkQuestion(question);
        checkSign(from);
        for (int sign = from; sign <= LAST_SIGN; sign++) {
            if (Signs.isSo(sign, question) == is) {
                return sign;
            }
        }
        return NONE;
    }

    public int run(int question, int from) throws IllegalArgumentException {
        checkQuestion(question);
        checkSign(from);
        boolean told = Signs.isSo(from, question);
        int sign = from + 1;
        while (sign <= LAST_SIGN && Signs.isSo(sign, question) == told) {
            sign++;
        }
        return sign - from;
    }

    public int ofKind(int kind, int from, int to) throws IllegalArgumentException {
        checkKind(kind);
        checkSpan(from, to);
        int many = 0;
        for (int sign = from; sign <= to; sign++) {
            if (Signs.kindNumber(sign) == kind) {
                many++;
            }
        }
        return many;
    }

    public int ofQuestion(int question, int from, int to) throws IllegalArgumentException {
        checkQuestion(question);
        checkSpan(from, to);
        int many = 0;
        for (int sign = from; sign <= to; sign++) {
            if (Signs.isSo(sign, question)) {
                many++;
            }
        }
        return many;
    }

    public int kinds(int from, int to) throws IllegalArgumentException {
        checkSpan(from, to);
        int kinds = 0;
        for (int sign = from; sign <= to; sign++) {
            kinds |= 1 << Signs.kindNumber(sign);
        }
        return kinds;
    }

    public int both(int kind, int question) throws IllegalArgumentException {
        checkKind(kind);
        checkQuestion(question);
        int many = 0;
        for (int sign = 0; sign <= LAST_SIGN; sign++) {
            if (Signs.kindNumber(sign) == kind && Signs.isSo(sign, question)) {
                many++;
            }
        }
        return many;
    }

    public boolean within(int question, int other) throws IllegalArgumentException {
        checkQuestion(question);
        checkQuestion(other);
        for (int sign = 0; sign <= LAST_SIGN; sign++) {
            if (Signs.isSo(sign, question) && !Signs.isSo(sign, other)) {
                return false;
            }
        }
        return true;
    }

    public int differ(int question, int other, int from) throws IllegalArgumentException {
        checkQuestion(question);
        checkQuestion(other);
        checkSign(from);
        for (int sign = from; sign <= LAST_SIGN; sign++) {
            if (Signs.isSo(sign, question) != Signs.isSo(sign, other)) {
                return sign;
            }
        }
        return NONE;
    }

    // ==== what is asked of texts

    public int length(int text) throws IndexOutOfBoundsException {
        return textAt(text).size();
    }

    public int sign(int text, int place) throws IndexOutOfBoundsException {
        Text asked = textAt(text);
        checkPlace(asked, place);
        return asked.signAt(place);
    }

    public String signs(int text) throws IndexOutOfBoundsException {
        Text asked = textAt(text);
        StringBuilder row = new StringBuilder();
        for (int place = 0; place < asked.size(); place++) {
            appendNumber(row, asked.signAt(place));
        }
        return row.toString();
    }

    public String kindsOf(int text) throws IndexOutOfBoundsException {
        Text asked = textAt(text);
        StringBuilder row = new StringBuilder();
        for (int place = 0; place < asked.size(); place++) {
            appendNumber(row, asked.kindAt(place));
        }
        return row.toString();
    }

    public int count(int text, int question)
            throws IndexOutOfBoundsException, IllegalArgumentException {
        Text asked = textAt(text);
        checkQuestion(question);
        return Integer.bitCount(asked.placesOf(question));
    }

    public int countKind(int text, int kind)
            throws IndexOutOfBoundsException, IllegalArgumentException {
        Text asked = textAt(text);
        checkKind(kind);
        return Integer.bitCount(asked.placesOfKind(kind));
    }

    public boolean isAll(int text, int question)
            throws IndexOutOfBoundsException, IllegalArgumentException {
        Text asked = textAt(text);
        checkQuestion(question);
        return asked.placesOf(question) == asked.allPlaces();
    }

    public int first(int text, int question, boolean isLast)
            throws IndexOutOfBoundsException, IllegalArgumentException {
        Text asked = textAt(text);
        checkQuestion(question);
        int found = NONE;
        for (int place = 0; place < asked.size(); place++) {
            if (Signs.isSo(asked.signAt(place), question) && (isLast || found == NONE)) {
                found = place;
            }
        }
        return found;
    }

    public boolean alike(int text, int other) throws IndexOutOfBoundsException {
        Text one = textAt(text);
        Text two = textAt(other);
        if (one.size() != two.size()) {
            return false;
        }
        for (int place = 0; place < one.size(); place++) {
            if (one.kindAt(place) != two.kindAt(place)) {
                return false;
            }
        }
        return true;
    }

    public boolean isName(int text) throws IndexOutOfBoundsException {
        return textAt(text).isNamed();
    }

    public int fault(int text) throws IndexOutOfBoundsException {
        return textAt(text).firstFault();
    }

    public int sort(int text, int from, int to) throws IndexOutOfBoundsException {
        Text asked = textAt(text);
        if (from < 0 || from >= to || to > asked.size()) {
            throw new IndexOutOfBoundsException();
        }
        return asked.sortOf(from, to);
    }

    public int longest(int text, int place) throws IndexOutOfBoundsException {
        Text asked = textAt(text);
        checkPlace(asked, place);
        return asked.longestAt(place);
    }

    public int pieces(int text) throws IndexOutOfBoundsException {
        return Integer.bitCount(textAt(text).begins());
    }

    public int piece(int text, int k, int what)
            throws IndexOutOfBoundsException, IllegalArgumentException {
        Text asked = textAt(text);
        int begin = beginOfPiece(asked, k);
        switch (what) {
            case 0:
                return begin;
            case 1:
                return asked.longestAt(begin);
            case 2:
                return Signs.sortBegunBy(asked.signAt(begin));
            default:
                throw new IllegalArgumentException();
        }
    }

    public String sorts(int text) throws IndexOutOfBoundsException {
        Text asked = textAt(text);
        int begins = asked.begins();
        StringBuilder row = new StringBuilder();
        for (int place = 0; place < asked.size(); place++) {
            if (isIn(begins, place)) {
                appendNumber(row, Signs.sortBegunBy(asked.signAt(place)));
            }
        }
        return row.toString();
    }

    public int cuts(int text) throws IndexOutOfBoundsException {
        return cutsOf(textAt(text).begins());
    }

    public int back(int text) throws IndexOutOfBoundsException {
        return cutsOf(textAt(text).backBegins());
    }

    public int fewest(int text) throws IndexOutOfBoundsException {
        return textAt(text).fewestPieces();
    }

    public int parted(int text, int set)
            throws IndexOutOfBoundsException, IllegalArgumentException {
        Text asked = textAt(text);
        if (set < 0 || (set & ~cutsOf(asked.allPlaces())) != 0) {
            throw new IllegalArgumentException();
        }
        return asked.piecesCutAt(set);
    }

    // ==== the whole

    public int house(int what) throws IllegalArgumentException {
        switch (what) {
            case 0:
                return signsInAll();
            case 1:
                return acts;
            case 2:
                return refusals;
            case 3:
                return knocks;
            case 4:
                return namesInAll();
            default:
                throw new IllegalArgumentException();
        }
    }

    public int knock() {
        knocks++;
        return knocks;
    }

    public boolean isSound() {
        boolean sound = areKindsSound();
        for (int text = 0; text < TEXTS; text++) {
            sound = sound && texts[text].isTextSound();
        }
        return sound;
    }

    public long digest() {
        long d = 8005;
        for (int text = 0; text < TEXTS; text++) {
            d = texts[text].digestFrom(d);
        }
        for (int what = 0; what <= LAST_HOUSE; what++) {
            d = mixed(d, house(what));
        }
        return mixed(d, isSound() ? 1 : 0);
    }

    // ==== what the calls share

    private Text textAt(int text) {
        if (text < 0 || text >= TEXTS) {
            throw new IndexOutOfBoundsException();
        }
        return texts[text];
    }

    private static void checkPlace(Text text, int place) {
        if (place < 0 || place >= text.size()) {
            throw new IndexOutOfBoundsException();
        }
    }

    private static void checkSign(int sign) {
        if (sign < 0 || sign > LAST_SIGN) {
            throw new IllegalArgumentException();
        }
    }

    private static void checkKind(int kind) {
        if (kind < 0 || kind > LAST_KIND) {
            throw new IllegalArgumentException();
        }
    }

    private static void checkQuestion(int question) {
        if (question < 0 || question > LAST_QUESTION) {
            throw new IllegalArgumentException();
        }
    }

    private static void checkSpan(int from, int to) {
        checkSign(from);
        checkSign(to);
        if (from > to) {
            throw new IllegalArgumentException();
        }
    }

    private static int beginOfPiece(Text text, int k) {
        int begin = text.beginOf(k);
        if (begin == NONE) {
            throw new IndexOutOfBoundsException();
        }
        return begin;
    }

    private int inserted(Text text, int place, int sign) {
        if (text.size() >= ROOM) {
            return refused();
        }
        text.insertSign(place, sign);
        return acted(text.size());
    }

    private static int sifted(Text text, int places, boolean isThese) {
        return text.retain(isThese ? places : text.allPlaces() & ~places);
    }

    private int acted(int answer) {
        acts++;
        return answer;
    }

    private int refused() {
        refusals++;
        return REFUSED;
    }

    private int signsInAll() {
        int many = 0;
        for (int text = 0; text < TEXTS; text++) {
            many += texts[text].size();
        }
        return many;
    }

    private int namesInAll() {
        int many = 0;
        for (int text = 0; text < TEXTS; text++) {
            if (texts[text].isNamed()) {
                many++;
            }
        }
        return many;
    }

    private static boolean areKindsSound() {
        int many = 0;
        for (int sign = 0; sign <= LAST_SIGN; sign++) {
            int kind = Signs.kindNumber(sign);
            if (kind >= 0 && kind <= LAST_KIND) {
                many++;
            }
        }
        return many == LAST_SIGN + 1;
    }

    private static boolean isIn(int set, int number) {
        return (set >> number & 1) == 1;
    }

    /** A piece begins at place 0 too, but nothing is cut there. */
    private static int cutsOf(int begins) {
        return begins & ~1;
    }

    private static void appendNumber(StringBuilder row, int number) {
        if (row.length() > 0) {
            row.append(' ');
        }
        row.append(number);
    }

    private static long mixed(long d, int v) {
        return d * 31 + v;
    }

    /** What is so of signs alone; every sign, kind and question that comes here is a valid one. */
    private static final class Signs {

        private static final int DIGIT = 2;
        private static final int TITLE = 6;
        private static final int BLANK = 7;
        private static final int MIRRORED = 10;
        private static final int START = 11;
        private static final int PART = 12;
        private static final int IGNORED = 13;

        /** No question that can be asked, but as one it tells of sums as others do of their sorts. */
        private static final int RECKONING = 14;

        private static final int LESS_SIGN = 60;
        private static final int GREATER_SIGN = 62;

        private static final int ALL_KINDS = 0x7fffffff;
        private static final int GREAT_KINDS = 1 << 1;
        private static final int SMALL_KINDS = 1 << 2 | 1 << 5;
        private static final int LETTER_KINDS = GREAT_KINDS | SMALL_KINDS;
        private static final int DIGIT_KINDS = 1 << 9;
        private static final int GAP_KINDS = 1 << 12;
        private static final int CONTROL_KINDS = 1 << 15;
        private static final int MIRRORED_KINDS = 1 << 21 | 1 << 22 | 1 << 29 | 1 << 30;
        private static final int RECKONING_KINDS = 1 << 25;
        private static final int START_KINDS = LETTER_KINDS | 1 << 23 | 1 << 26;
        private static final int IGNORED_KINDS = 1 << 16 | CONTROL_KINDS;
        private static final int PART_KINDS = START_KINDS | DIGIT_KINDS | IGNORED_KINDS;

        /** Question by question; isSo tells where the single sign matters beside its kind. */
        private static final int[] KINDS_OF_QUESTION = {
            ALL_KINDS, LETTER_KINDS, DIGIT_KINDS, LETTER_KINDS | DIGIT_KINDS,
            GREAT_KINDS, SMALL_KINDS, 0, 0,
            GAP_KINDS, CONTROL_KINDS, MIRRORED_KINDS, START_KINDS,
            PART_KINDS, IGNORED_KINDS, RECKONING_KINDS,
        };

        /** Sort by sort, but for singles: what the first sign of a piece has to be. */
        private static final int[] FIRST_OF_SORT = {START, DIGIT, BLANK, RECKONING};

        /** Sort by sort: what each other sign has to be; no sign is a title. */
        private static final int[] OTHERS_OF_SORT = {PART, DIGIT, BLANK, RECKONING, TITLE};

        /** Sign by sign, sixteen in a line. */
        private static final byte[] KINDS = {
            15, 15, 15, 15, 15, 15, 15, 15, 15, 15, 15, 15, 15, 15, 15, 15,
            15, 15, 15, 15, 15, 15, 15, 15, 15, 15, 15, 15, 15, 15, 15, 15,
            12, 24, 24, 24, 26, 24, 24, 24, 21, 22, 24, 25, 24, 20, 24, 24,
            9, 9, 9, 9, 9, 9, 9, 9, 9, 9, 24, 24, 25, 25, 25, 24,
            24, 1, 1, 1, 1, 1, 1, 1, 1, 1, 1, 1, 1, 1, 1, 1,
            1, 1, 1, 1, 1, 1, 1, 1, 1, 1, 1, 21, 24, 22, 27, 23,
            27, 2, 2, 2, 2, 2, 2, 2, 2, 2, 2, 2, 2, 2, 2, 2,
            2, 2, 2, 2, 2, 2, 2, 2, 2, 2, 2, 21, 25, 22, 25, 15,
            15, 15, 15, 15, 15, 15, 15, 15, 15, 15, 15, 15, 15, 15, 15, 15,
            15, 15, 15, 15, 15, 15, 15, 15, 15, 15, 15, 15, 15, 15, 15, 15,
            12, 24, 26, 26, 26, 26, 28, 24, 27, 28, 5, 29, 25, 16, 28, 27,
            28, 25, 11, 11, 27, 2, 24, 24, 27, 11, 5, 30, 11, 11, 11, 24,
            1, 1, 1, 1, 1, 1, 1, 1, 1, 1, 1, 1, 1, 1, 1, 1,
            1, 1, 1, 1, 1, 1, 1, 25, 1, 1, 1, 1, 1, 1, 1, 2,
            2, 2, 2, 2, 2, 2, 2, 2, 2, 2, 2, 2, 2, 2, 2, 2,
            2, 2, 2, 2, 2, 2, 2, 25, 2, 2, 2, 2, 2, 2, 2, 2,
        };

        static int kindNumber(int sign) {
            return KINDS[sign];
        }

        static boolean isSo(int sign, int question) {
            boolean isByKind = isIn(KINDS_OF_QUESTION[question], KINDS[sign]);
            switch (question) {
                case BLANK:
                    return isBlank(sign);
                case MIRRORED:
                    return isByKind || sign == LESS_SIGN || sign == GREATER_SIGN;
                case PART:
                case IGNORED:
                    // Of all their kinds only the controls have blanks, which are not ignored.
                    return isByKind && !isBlank(sign);
                default:
                    return isByKind;
            }
        }

        private static boolean isBlank(int sign) {
            return sign >= 9 && sign <= 13 || sign >= 28 && sign <= 32;
        }

        static boolean isLet(int sign, boolean isFirst) {
            return isSo(sign, isFirst ? START : PART);
        }

        /** The first sign alone tells the sort, since no sign begins two of the sorts. */
        static int sortBegunBy(int sign) {
            for (int sort = NAME; sort < SINGLE; sort++) {
                if (isSo(sign, FIRST_OF_SORT[sort])) {
                    return sort;
                }
            }
            return SINGLE;
        }

        static int questionOfOthers(int sort) {
            return OTHERS_OF_SORT[sort];
        }
    }

    /** A row of signs; its callers hand it only places that it has. */
    private static final class Text {

        private final byte[] row = new byte[ROOM];
        private int many;

        /** Told by the place behind a piece; made once, since each call fills it anew. */
        private final int[] byEnd = new int[ROOM + 1];

        int size() {
            return many;
        }

        int signAt(int place) {
            return row[place] & LAST_SIGN;
        }

        int kindAt(int place) {
            return Signs.kindNumber(signAt(place));
        }

        int allPlaces() {
            return (1 << many) - 1;
        }

        int placesOf(int question) {
            int places = 0;
            for (int place = 0; place < many; place++) {
                if (Signs.isSo(signAt(place), question)) {
                    places |= 1 << place;
                }
            }
            return places;
        }

        int placesOfKind(int kind) {
            int places = 0;
            for (int place = 0; place < many; place++) {
                if (kindAt(place) == kind) {
                    places |= 1 << place;
                }
            }
            return places;
        }

        void setSign(int place, int sign) {
            row[place] = (byte) sign;
        }

        /** Only with fewer signs than there is room for. */
        void insertSign(int place, int sign) {
            for (int i = many; i > place; i--) {
                row[i] = row[i - 1];
            }
            setSign(place, sign);
            many++;
        }

        /** Answers how many signs went. */
        int retain(int places) {
            int had = many;
            many = 0;
            for (int place = 0; place < had; place++) {
                if (isIn(places, place)) {
                    row[many] = row[place];
                    many++;
                }
            }
            return had - many;
        }

        /** From the left, so that a text can become a part of itself. */
        void become(Text other, int from, int to) {
            for (int place = from; place < to; place++) {
                row[place - from] = other.row[place];
            }
            many = to - from;
        }

        /** Only with room for both; other may be this text, so its number is taken first. */
        void append(Text other) {
            int more = other.many;
            for (int i = 0; i < more; i++) {
                row[many + i] = other.row[i];
            }
            many += more;
        }

        /** Answers whether another sign stands at some place then. */
        boolean reverse() {
            boolean isOther = false;
            for (int i = 0; i < many / 2; i++) {
                byte left = row[i];
                byte right = row[many - 1 - i];
                row[i] = right;
                row[many - 1 - i] = left;
                isOther = isOther || left != right;
            }
            return isOther;
        }

        boolean isNamed() {
            return many > 0
                && Signs.sortBegunBy(signAt(0)) == NAME
                && longestAt(0) == many;
        }

        int firstFault() {
            for (int place = 0; place < many; place++) {
                if (!Signs.isLet(signAt(place), place == 0)) {
                    return place;
                }
            }
            return many == 0 ? 0 : NONE;
        }

        int longestAt(int place) {
            int others = Signs.questionOfOthers(Signs.sortBegunBy(signAt(place)));
            int end = place + 1;
            while (end < many && Signs.isSo(signAt(end), others)) {
                end++;
            }
            return end - place;
        }

        /** Each front of a piece is a piece of its sort, so the longest one tells of all. */
        int sortOf(int from, int to) {
            return to - from <= longestAt(from) ? Signs.sortBegunBy(signAt(from)) : NONE;
        }

        /** The places at which a piece of the row begins. */
        int begins() {
            int begins = 0;
            int end = 0;
            for (int place = 0; place < many; place++) {
                if (place == end) {
                    begins |= 1 << place;
                    end += longestAt(place);
                }
            }
            return begins;
        }

        /** The place at which piece k of the row begins, NONE without it. */
        int beginOf(int k) {
            int begins = begins();
            int ahead = 0;
            for (int place = 0; place < many; place++) {
                if (isIn(begins, place)) {
                    if (ahead == k) {
                        return place;
                    }
                    ahead++;
                }
            }
            return NONE;
        }

        /** The places at which a piece of the back row begins. */
        int backBegins() {
            // From the right, so that the longest piece that ends somewhere is told last.
            for (int from = many - 1; from >= 0; from--) {
                int reach = from + longestAt(from);
                for (int end = from + 1; end <= reach; end++) {
                    byEnd[end] = from;
                }
            }
            int begins = 0;
            int begin = many;
            for (int end = many; end > 0; end--) {
                if (end == begin) {
                    begin = byEnd[end];
                    begins |= 1 << begin;
                }
            }
            return begins;
        }

        int fewestPieces() {
            // One by one always goes, so no end needs more pieces than signs.
            for (int end = 0; end <= many; end++) {
                byEnd[end] = end;
            }
            for (int from = 0; from < many; from++) {
                int reach = from + longestAt(from);
                for (int end = from + 1; end <= reach; end++) {
                    byEnd[end] = Math.min(byEnd[end], byEnd[from] + 1);
                }
            }
            return byEnd[many];
        }

        int piecesCutAt(int cuts) {
            int pieces = 0;
            int begin = 0;
            for (int end = 1; end <= many; end++) {
                if (end == many || isIn(cuts, end)) {
                    if (longestAt(begin) < end - begin) {
                        return NONE;
                    }
                    pieces++;
                    begin = end;
                }
            }
            return pieces;
        }

        boolean isTextSound() {
            int cuts = cutsOf(begins());
            int pieces = Integer.bitCount(begins());
            return many <= ROOM
                && cuts == cutsOf(backBegins())
                && pieces == fewestPieces()
                && pieces == piecesCutAt(cuts)
                && isNamed() == (firstFault() == NONE);
        }

        long digestFrom(long start) {
            long d = mixed(start, many);
            for (int place = 0; place < many; place++) {
                d = mixed(d, signAt(place));
                d = mixed(d, kindAt(place));
            }
            for (int question = 0; question <= LAST_QUESTION; question++) {
                d = mixed(d, Integer.bitCount(placesOf(question)));
            }
            d = mixed(d, firstFault());
            d = mixed(d, Integer.bitCount(begins()));
            d = mixed(d, cutsOf(begins()));
            return mixed(d, fewestPieces());
        }
    }
}
