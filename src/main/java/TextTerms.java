/**
 * Reads texts as terms: numbers, strings, bytes, sequences, words with arguments; tells where a
 * text is refused, and of one that is read all terms, and what their tokens mean.
 */
public final class TextTerms {
    public static final int NONE = -1;

    private static final int MOST_BYTES = 16384;
    private static final int MOST_TERMS = 4096;
    private static final int MOST_OPEN = 60;
    private static final int MOST_IN_MARK = 31;
    private static final int FED_AT_ONCE = 20;

    // Kinds of terms. A token that is a term by itself is told by that term's kind.
    private static final int NUMBER = 0;
    private static final int STRING = 1;
    private static final int BYTES = 2;
    private static final int SEQUENCE = 3;
    private static final int APPLICATION = 4;

    // Further tokens. A sign ({ } ( ) ;) is told by its own character, which is above all these.
    private static final int WORD = 5;
    private static final int MARK = 6;
    private static final int NO_TOKEN = 7;
    private static final int TEXT_END = 8;

    private final Bytes fed = new Bytes();
    private final Terms terms = new Terms();
    private final Reader reader = new Reader();
    private final Magnitude magnitude = new Magnitude();

    public TextTerms() {
    }

    public void feed(int a, int b, int c, int d, int e) throws IllegalStateException {
        if (fed.filled > MOST_BYTES - FED_AT_ONCE) {
            throw new IllegalStateException("no room for twenty bytes more");
        }
        fed.addFour(a);
        fed.addFour(b);
        fed.addFour(c);
        fed.addFour(d);
        fed.addFour(e);
    }

    public int end(int n) throws IllegalArgumentException {
        int before = fed.filled;
        if (n < 0 || n > before) {
            throw new IllegalArgumentException("there are not so many bytes");
        }
        fed.filled = n;
        return before;
    }

    public int change(int i, int b) {
        return fed.replace(i, b);
    }

    public int read() {
        terms.beginWith(fed);
        int refused = reader.fill(terms);
        if (refused != NONE) {
            terms.forgetAll();
        }
        return refused;
    }

    public int count() {
        return terms.filled;
    }

    public int kind(int t) {
        return terms.in(terms.kinds, t);
    }

    public int parent(int t) {
        return terms.in(terms.parents, t);
    }

    public int arguments(int t) {
        return terms.in(terms.inside, t);
    }

    public int argument(int t, int i) {
        return terms.child(t, i);
    }

    public int size(int t) {
        return terms.in(terms.sizes, t);
    }

    public int word(int t) {
        if (kind(t) != APPLICATION) {
            return NONE;
        }
        return KnownWords.numberOf(terms.text, begins(t), ends(t));
    }

    public int begins(int t) {
        return terms.in(terms.froms, t);
    }

    public int ends(int t) {
        return terms.in(terms.tos, t);
    }

    public int mark(int t, int i) {
        if (kind(t) != APPLICATION) {
            return NONE;
        }
        return terms.text.inside(terms.in(terms.markFroms, t), terms.in(terms.markTos, t), i);
    }

    public int length(int t) {
        int from = begins(t);
        int to = ends(t);
        switch (kind(t)) {
            case NUMBER:
                magnitude.take(terms.text, from, to);
                return magnitude.bits();
            case STRING:
                return Meaning.lengthOfString(terms.text, from, to);
            case BYTES:
                return Meaning.lengthOfBytes(from, to);
            case APPLICATION:
                return to - from;
            default:
                return NONE;
        }
    }

    public int part(int t, int i) {
        int from = begins(t);
        int to = ends(t);
        switch (kind(t)) {
            case NUMBER:
                magnitude.take(terms.text, from, to);
                return i < magnitude.bits() ? magnitude.bit(i) : NONE;
            case STRING:
                return Meaning.partOfString(terms.text, from, to, i);
            case BYTES:
                return Meaning.partOfBytes(terms.text, from, to, i);
            case APPLICATION:
                return terms.text.inside(from, to, i);
            default:
                return NONE;
        }
    }

    public boolean isNegative(int t) {
        return kind(t) == NUMBER && Decimal.isBelowZero(terms.text, begins(t), ends(t));
    }

    /** A row of bytes; every look at a place where there is none answers NONE. */
    private static final class Bytes {
        final byte[] row = new byte[MOST_BYTES];
        int filled = 0;

        int at(int place) {
            return place >= 0 && place < filled ? row[place] & 255 : NONE;
        }

        /** Byte i of those from one place up to another. */
        int inside(int from, int to, int i) {
            return i >= 0 && i < to - from ? at(from + i) : NONE;
        }

        /** The first place, from one on, whose character is not of the set. */
        int behindAll(int set, int place) {
            int behind = place;
            while (behind < filled && Characters.belongs(at(behind), set)) {
                behind++;
            }
            return behind;
        }

        void addFour(int four) {
            for (int shift = 24; shift >= 0; shift -= 8) {
                if (filled < row.length) {
                    row[filled] = (byte) (four >>> shift);
                    filled++;
                }
            }
        }

        int replace(int place, int value) {
            if (place < 0 || place >= filled || value < 0 || value > 255) {
                return NONE;
            }
            int before = at(place);
            row[place] = (byte) value;
            return before;
        }

        void copyFrom(Bytes other) {
            filled = other.filled;
            System.arraycopy(other.row, 0, row, 0, filled);
        }
    }

    /** What single characters are. None of these holds for NONE. */
    private static final class Characters {
        static final int DIGITS = 0;
        static final int HEX_DIGITS = 1;
        static final int OF_WORDS = 2;

        static boolean belongs(int c, int set) {
            switch (set) {
                case DIGITS:
                    return isDigit(c);
                case HEX_DIGITS:
                    return hexValue(c) != NONE;
                default:
                    return isDigit(c) || beginsWord(c);
            }
        }

        static boolean isDigit(int c) {
            return c >= '0' && c <= '9';
        }

        static boolean beginsWord(int c) {
            return c >= 'a' && c <= 'z' || c >= 'A' && c <= 'Z' || c == '_';
        }

        static boolean isBlank(int c) {
            return c == 32 || c == 9 || c == 10 || c == 13;
        }

        static boolean isSign(int c) {
            return c == '{' || c == '}' || c == '(' || c == ')' || c == ';';
        }

        static boolean standsInString(int c) {
            return c >= 32 && c <= 126 && c != '"' && c != '\\';
        }

        /** What a character behind a \ in a string means; NONE when it must not stand there. */
        static int escaped(int c) {
            if (c == 'n') {
                return 10;
            }
            return c == '"' || c == '\\' ? c : NONE;
        }

        static int hexValue(int c) {
            if (c >= '0' && c <= '9') {
                return c - '0';
            }
            if (c >= 'a' && c <= 'f') {
                return c - 'a' + 10;
            }
            return c >= 'A' && c <= 'F' ? c - 'A' + 10 : NONE;
        }
    }

    /** Goes over a text token by token. */
    private static final class Scanner {
        int token;
        int from;
        int to;

        void restart() {
            from = 0;
            to = 0;
        }

        void step(Bytes text) {
            from = behindBlanks(text, to);
            to = from;
            token = tokenAt(text, text.at(from));
        }

        private static int behindBlanks(Bytes text, int place) {
            boolean inRemark = false;
            int behind = place;
            while (behind < text.filled) {
                int c = text.at(behind);
                if (c == '#') {
                    inRemark = true;
                } else if (c == 10) {
                    inRemark = false;
                } else if (!inRemark && !Characters.isBlank(c)) {
                    return behind;
                }
                behind++;
            }
            return behind;
        }

        private int tokenAt(Bytes text, int first) {
            if (first == NONE) {
                return TEXT_END;
            }
            if (Characters.beginsWord(first)) {
                to = text.behindAll(Characters.OF_WORDS, from);
                return WORD;
            }
            if (first == '0' && text.at(from + 1) == 'x') {
                to = text.behindAll(Characters.HEX_DIGITS, from + 2);
                return (to - from) % 2 == 0 ? BYTES : NO_TOKEN;
            }
            if (first == '-' || Characters.isDigit(first)) {
                to = text.behindAll(Characters.DIGITS, from + 1);
                return first == '-' && to == from + 1 ? NO_TOKEN : NUMBER;
            }
            if (first == '"') {
                return stringOrNone(text);
            }
            if (first == '%') {
                int behind = text.behindAll(Characters.OF_WORDS, from + 1);
                to = Math.min(behind, from + 1 + MOST_IN_MARK);
                return to == from + 1 ? NO_TOKEN : MARK;
            }
            to = from + 1;
            return Characters.isSign(first) ? first : NO_TOKEN;
        }

        private int stringOrNone(Bytes text) {
            int place = from + 1;
            while (place < text.filled) {
                int c = text.at(place);
                if (c == '"') {
                    to = place + 1;
                    return STRING;
                }
                if (Characters.standsInString(c)) {
                    place++;
                } else if (c == '\\' && Characters.escaped(text.at(place + 1)) != NONE) {
                    place += 2;
                } else {
                    return NO_TOKEN;
                }
            }
            return NO_TOKEN;
        }
    }

    /**
     * The terms of one text: a term's number is its index in every row. The text is a copy, for
     * the bytes that came in may change while the terms stay at hand.
     */
    private static final class Terms {
        final Bytes text = new Bytes();
        final int[] kinds = new int[MOST_TERMS];
        final int[] parents = new int[MOST_TERMS];
        final int[] inside = new int[MOST_TERMS];
        final int[] sizes = new int[MOST_TERMS];
        final int[] froms = new int[MOST_TERMS];
        final int[] tos = new int[MOST_TERMS];
        final int[] markFroms = new int[MOST_TERMS];
        final int[] markTos = new int[MOST_TERMS];
        int filled = 0;

        void beginWith(Bytes bytes) {
            text.copyFrom(bytes);
            filled = 0;
        }

        void forgetAll() {
            filled = 0;
        }

        boolean has(int t) {
            return t >= 0 && t < filled;
        }

        int in(int[] row, int t) {
            return t >= 0 && t < filled && t < row.length ? row[t] : NONE;
        }

        /** Answers the new term's number; NONE when there is no room for it. */
        int add(int kind, int parent, int from, int to) {
            if (filled >= MOST_TERMS) {
                return NONE;
            }
            int t = filled;
            filled++;
            kinds[t] = kind;
            parents[t] = parent;
            inside[t] = 0;
            sizes[t] = 1;
            froms[t] = from;
            tos[t] = to;
            markFroms[t] = 0;
            markTos[t] = 0;
            if (parent >= 0 && parent < t) {
                inside[parent]++;
            }
            return t;
        }

        void endAt(int t, int to) {
            if (has(t)) {
                tos[t] = to;
            }
        }

        void setMark(int t, int from, int to) {
            if (has(t)) {
                markFroms[t] = from;
                markTos[t] = to;
            }
        }

        /** A term has a higher number than the one in which it stands: the last ones come first. */
        void addUpSizes() {
            for (int t = filled - 1; t > 0; t--) {
                int parent = parents[t];
                if (has(parent)) {
                    sizes[parent] += sizes[t];
                }
            }
        }

        /** The first child is the next term, and each other one stands behind all of the last. */
        int child(int t, int i) {
            if (i < 0 || i >= in(inside, t)) {
                return NONE;
            }
            int child = t + 1;
            for (int passed = 0; passed < i; passed++) {
                child += in(sizes, child);
            }
            return has(child) ? child : NONE;
        }
    }

    /**
     * The grammar, without recursion: the terms that are still open are a chain, from the
     * innermost one over its parents. An open application stands in parentheses just when its
     * parent is an application too, for a word alone is never open.
     */
    private static final class Reader {
        // What may come next.
        static final int ITEM = 0;
        static final int ITEM_END = 1;
        static final int HEAD = 2;
        static final int MARK_OR_ARGUMENT = 3;
        static final int ARGUMENT = 4;

        final Scanner scanner = new Scanner();
        int open;
        int depth;
        int due;

        /** Answers NONE, or the place at which the text is refused. */
        int fill(Terms terms) {
            scanner.restart();
            open = NONE;
            depth = 0;
            due = ITEM;
            // A token has a byte at least, so the end comes within this many steps.
            for (int step = 0; step <= terms.text.filled; step++) {
                scanner.step(terms.text);
                closeItem(terms);
                if (scanner.token == TEXT_END) {
                    break;
                }
                if (!takes(terms)) {
                    return scanner.from;
                }
            }
            if (open != NONE || due != ITEM_END) {
                return terms.text.filled;
            }
            terms.addUpSizes();
            return NONE;
        }

        private boolean takes(Terms terms) {
            switch (scanner.token) {
                case NUMBER:
                    return !Decimal.isTooLarge(terms.text, scanner.from, scanner.to)
                        && takesLeaf(terms, NUMBER);
                case STRING:
                case BYTES:
                    return takesLeaf(terms, scanner.token);
                case WORD:
                    return takesWord(terms);
                case MARK:
                    return takesMark(terms);
                case '{':
                    return takesSequence(terms);
                case '}':
                    return takesSequenceEnd(terms);
                case ';':
                    return takesSemicolon();
                case '(':
                    return takesOpening();
                case ')':
                    return takesClosing(terms);
                default:
                    return false;
            }
        }

        private boolean takesLeaf(Terms terms, int kind) {
            if (due != ITEM && !isInApplication() || addTerm(terms, kind) == NONE) {
                return false;
            }
            due = dueBehindTerm(terms);
            return true;
        }

        private boolean takesWord(Terms terms) {
            if (isInApplication()) {
                return takesLeaf(terms, APPLICATION);
            }
            return (due == ITEM || due == HEAD) && opens(terms, APPLICATION, MARK_OR_ARGUMENT);
        }

        private boolean takesMark(Terms terms) {
            if (due != MARK_OR_ARGUMENT) {
                return false;
            }
            terms.setMark(open, scanner.from + 1, scanner.to);
            due = ARGUMENT;
            return true;
        }

        private boolean takesSequence(Terms terms) {
            return (due == ITEM || isInApplication()) && opens(terms, SEQUENCE, ITEM);
        }

        private boolean takesSequenceEnd(Terms terms) {
            if (open == NONE || due != ITEM && due != ITEM_END) {
                return false;
            }
            terms.endAt(open, scanner.to);
            close(terms);
            return true;
        }

        private boolean takesSemicolon() {
            if (open == NONE || due != ITEM_END) {
                return false;
            }
            due = ITEM;
            return true;
        }

        private boolean takesOpening() {
            if (!isInApplication()) {
                return false;
            }
            due = HEAD;
            return true;
        }

        private boolean takesClosing(Terms terms) {
            if (!isInApplication() || !isInParentheses(terms)) {
                return false;
            }
            close(terms);
            return true;
        }

        private boolean isInApplication() {
            return due == MARK_OR_ARGUMENT || due == ARGUMENT;
        }

        private boolean isInParentheses(Terms terms) {
            return terms.in(terms.kinds, terms.in(terms.parents, open)) == APPLICATION;
        }

        /** An application that is an item has no end of its own: what follows the item ends it. */
        private void closeItem(Terms terms) {
            int token = scanner.token;
            boolean endsItem = token == ';' || token == '}' || token == TEXT_END;
            if (endsItem && isInApplication() && !isInParentheses(terms)) {
                close(terms);
            }
        }

        private int addTerm(Terms terms, int kind) {
            if (depth >= MOST_OPEN) {
                return NONE;
            }
            return terms.add(kind, open, scanner.from, scanner.to);
        }

        private boolean opens(Terms terms, int kind, int dueInside) {
            int t = addTerm(terms, kind);
            if (t == NONE) {
                return false;
            }
            open = t;
            depth++;
            due = dueInside;
            return true;
        }

        private void close(Terms terms) {
            open = terms.in(terms.parents, open);
            depth--;
            due = dueBehindTerm(terms);
        }

        private int dueBehindTerm(Terms terms) {
            return terms.in(terms.kinds, open) == APPLICATION ? ARGUMENT : ITEM_END;
        }
    }

    /** Numbers as they are written. */
    private static final class Decimal {
        // 2 to the 1024th: the first size that is refused.
        static final String LIMIT = "179769313486231590772930519078902473361797697894230657273430081157732675805500963132708477322407536021120113879871393357658789768814416622492847430639474124377767893424865485276302219601246094119453082952085005768838150682342462881473913110540827237163350510684586298239947245938479716304835356329624224137216";

        /** Where the first digit stands that is no needless zero; the number's end if it is 0. */
        static int firstDigit(Bytes text, int from, int to) {
            int first = text.at(from) == '-' ? from + 1 : from;
            while (first < to && text.at(first) == '0') {
                first++;
            }
            return first;
        }

        static boolean isBelowZero(Bytes text, int from, int to) {
            return text.at(from) == '-' && firstDigit(text, from, to) < to;
        }

        static boolean isTooLarge(Bytes text, int from, int to) {
            int first = firstDigit(text, from, to);
            int digits = to - first;
            if (digits != LIMIT.length()) {
                return digits > LIMIT.length();
            }
            for (int i = 0; i < LIMIT.length(); i++) {
                int digit = text.at(first + i);
                if (digit != LIMIT.charAt(i)) {
                    return digit > LIMIT.charAt(i);
                }
            }
            return true;
        }
    }

    /** The size of one number, in limbs of 32 bits, the lowest first. */
    private static final class Magnitude {
        static final int BITS = 32;
        static final long LOW = 4294967295L;
        // Nine digits at a time: a limb times this, and a carry, stay within a long.
        static final long BILLION = 1000000000L;

        final int[] limbs = new int[32];
        int used = 0;

        void take(Bytes text, int from, int to) {
            used = 0;
            long scale = 1;
            long value = 0;
            for (int place = Decimal.firstDigit(text, from, to); place < to; place++) {
                value = value * 10 + (text.at(place) - '0');
                scale = scale * 10;
                if (scale == BILLION || place == to - 1) {
                    multiplyAndAdd(scale, value);
                    scale = 1;
                    value = 0;
                }
            }
        }

        private void multiplyAndAdd(long factor, long summand) {
            long carry = summand;
            for (int i = 0; i < used; i++) {
                long sum = (limbs[i] & LOW) * factor + carry;
                limbs[i] = (int) sum;
                carry = sum >>> BITS;
            }
            if (carry != 0 && used < limbs.length) {
                limbs[used] = (int) carry;
                used++;
            }
        }

        int bits() {
            int bits = BITS * used;
            while (bits > 0 && bit(bits - 1) == 0) {
                bits--;
            }
            return bits;
        }

        int bit(int i) {
            if (i < 0 || i >= BITS * used) {
                return NONE;
            }
            return limbs[i / BITS] >>> i % BITS & 1;
        }
    }

    /** What the tokens of strings and bytes mean. */
    private static final class Meaning {
        static int lengthOfString(Bytes text, int from, int to) {
            int passed = 0;
            for (int place = from + 1; place < to - 1; place++) {
                if (text.at(place) == '\\') {
                    place++;
                }
                passed++;
            }
            return passed;
        }

        static int partOfString(Bytes text, int from, int to, int i) {
            int passed = 0;
            for (int place = from + 1; place < to - 1; place++) {
                int c = text.at(place);
                if (c == '\\') {
                    place++;
                    c = Characters.escaped(text.at(place));
                }
                if (passed == i) {
                    return c;
                }
                passed++;
            }
            return NONE;
        }

        static int lengthOfBytes(int from, int to) {
            return (to - from) / 2 - 1;
        }

        static int partOfBytes(Bytes text, int from, int to, int i) {
            if (i < 0 || i >= lengthOfBytes(from, to)) {
                return NONE;
            }
            int place = from + 2 + 2 * i;
            int high = Characters.hexValue(text.at(place));
            int low = Characters.hexValue(text.at(place + 1));
            return high * 16 + low;
        }
    }

    /** The known words, in the order of their numbers. */
    private static final class KnownWords {
        static final int LINES = 11;

        static String line(int i) {
            switch (i) {
                case 0:
                    return "unit bool int nat mutez string bytes address timestamp operation";
                case 1:
                    return "option list set contract or map big_map lambda pair";
                case 2:
                    return "Unit True False None Some Left Right Pair Elt parameter storage code";
                case 3:
                    return "DROP DUP SWAP DIG DUG PUSH DIP UNIT PAIR UNPAIR CAR CDR SOME NONE";
                case 4:
                    return "LEFT RIGHT NIL CONS EMPTY_SET EMPTY_MAP EMPTY_BIG_MAP";
                case 5:
                    return "IF IF_NONE IF_LEFT IF_CONS LOOP LOOP_LEFT ITER MAP FAILWITH LAMBDA";
                case 6:
                    return "EXEC APPLY ADD SUB SUB_MUTEZ MUL EDIV NEG ABS INT ISNAT AND OR XOR";
                case 7:
                    return "NOT LSL LSR COMPARE EQ NEQ LT GT LE GE CONCAT SLICE SIZE MEM GET";
                case 8:
                    return "UPDATE GET_AND_UPDATE PACK UNPACK AMOUNT BALANCE SENDER SOURCE";
                case 9:
                    return "SELF_ADDRESS NOW LEVEL SELF ADDRESS CONTRACT TRANSFER_TOKENS";
                case 10:
                    return "CREATE_CONTRACT";
                default:
                    return "";
            }
        }

        /** The number of the word that stands in the text; NONE when it is not known. */
        static int numberOf(Bytes text, int from, int to) {
            int number = 0;
            for (int i = 0; i < LINES; i++) {
                String words = line(i);
                int begin = 0;
                for (int behind = 0; behind <= words.length(); behind++) {
                    if (behind < words.length() && words.charAt(behind) != ' ') {
                        continue;
                    }
                    if (isSame(words, begin, behind, text, from, to)) {
                        return number;
                    }
                    number++;
                    begin = behind + 1;
                }
            }
            return NONE;
        }

        private static boolean isSame(String words, int begin, int behind,
                Bytes text, int from, int to) {
            if (behind - begin != to - from) {
                return false;
            }
            for (int i = begin; i < behind && i < words.length(); i++) {
                if (words.charAt(i) != text.at(from + i - begin)) {
                    return false;
                }
            }
            return true;
        }
    }
}
