import java.math.BigInteger;

/** Promises 12 to 18, sentence by sentence: the boundary cases of what tokens mean. */
public final class TokensBoundaryTest {
    private static final String KNOWN = "unit bool int nat mutez string bytes address timestamp"
        + " operation option list set contract or map big_map lambda pair Unit True False None"
        + " Some Left Right Pair Elt parameter storage code DROP DUP SWAP DIG DUG PUSH DIP UNIT"
        + " PAIR UNPAIR CAR CDR SOME NONE LEFT RIGHT NIL CONS EMPTY_SET EMPTY_MAP EMPTY_BIG_MAP"
        + " IF IF_NONE IF_LEFT IF_CONS LOOP LOOP_LEFT ITER MAP FAILWITH LAMBDA EXEC APPLY ADD"
        + " SUB SUB_MUTEZ MUL EDIV NEG ABS INT ISNAT AND OR XOR NOT LSL LSR COMPARE EQ NEQ LT"
        + " GT LE GE CONCAT SLICE SIZE MEM GET UPDATE GET_AND_UPDATE PACK UNPACK AMOUNT BALANCE"
        + " SENDER SOURCE SELF_ADDRESS NOW LEVEL SELF ADDRESS CONTRACT TRANSFER_TOKENS"
        + " CREATE_CONTRACT";
    // Term 0 is the sequence, 1 a number, 2 a string, 3 bytes, 4 pair, and 5 unit in it.
    private static final String TEXT = "{ -12 ; \"a\\n\" ; 0x0fF0 ; pair %m1 (unit) } ";
    private static final int TERMS = 6;
    private static final BigInteger LARGEST = BigInteger.ONE.shiftLeft(1024)
        .subtract(BigInteger.ONE);
    // Places that no token has, the ones at which arithmetic would wrap among them.
    private static final int[] NO_PLACES = {-1, -2, 16384, Integer.MAX_VALUE,
        Integer.MAX_VALUE / 2, Integer.MAX_VALUE / 2 + 1, Integer.MIN_VALUE,
        Integer.MIN_VALUE / 2, Integer.MIN_VALUE + 1};

    public static void main(String[] args) {
        Due.runAll(TokensBoundaryTest.class);
    }

    /** An object whose text of before had more terms than that which it read last. */
    private static TextTerms withFewerThanBefore() {
        TextTerms x = Due.read(TEXT);
        x.end(0);
        Due.feed(x, Due.bytes("7"), 0);
        Due.same("read()", x.read(), -1);
        return x;
    }

    /** An object whose last text was refused at its end, behind these terms. */
    private static TextTerms withRefused() {
        TextTerms x = Due.read(TEXT);
        x.end(TEXT.length() - 2);
        Due.same("read()", x.read(), TEXT.length() - 2);
        return x;
    }

    private static String known(int number) {
        return KNOWN.split(" ")[number];
    }

    // Promise 12.

    @Due.Says("KNOWN WORDS have numbers, from 0 on")
    static void promise12_firstAndLastKnownWord() {
        Due.same("word of unit", Due.read("unit").word(0), 0);
        Due.same("word of CREATE_CONTRACT", Due.read("CREATE_CONTRACT").word(0), 106);
        Due.same("word of bool", Due.read("bool").word(0), 1);
        Due.same("word of TRANSFER_TOKENS", Due.read("TRANSFER_TOKENS").word(0), 105);
    }

    @Due.Says("The number of an application's word")
    static void promise12_everyKnownWord() {
        for (int number = 0; number < 107; number++) {
            String word = known(number);
            TextTerms x = Due.read("{" + word + "%m;x(" + word + " 1)" + word + "}");
            Due.same("word of the item " + word, x.word(1), number);
            Due.same("word of " + word + " in parentheses", x.word(3), number);
            Due.same("word of " + word + " alone", x.word(5), number);
            Due.same("word of x", x.word(2), -1);
        }
    }

    @Due.Says("NONE when it is not known")
    static void promise12_notKnownIfALetterIsMissing() {
        for (int number = 0; number < 107; number++) {
            String word = known(number);
            notKnown(word.substring(1));
            notKnown(word.substring(0, word.length() - 1));
        }
    }

    @Due.Says("NONE when it is not known")
    static void promise12_notKnownIfALetterIsTooMuch() {
        for (int number = 0; number < 107; number++) {
            String word = known(number);
            notKnown(word + "_");
            notKnown("_" + word);
            notKnown(word + "0");
            notKnown(word + word);
        }
    }

    @Due.Says("NONE when it is not known")
    static void promise12_notKnownIfALetterIsAnother() {
        for (int number = 0; number < 107; number++) {
            String word = known(number);
            notKnown(word.substring(0, word.length() - 1) + "x");
            notKnown("x" + word.substring(1));
        }
        notKnown("uNIT");
        notKnown("Bool");
        notKnown("drop");
        notKnown("_");
    }

    /** Holds unless the changed word is another known one, which is let be. */
    private static void notKnown(String word) {
        boolean isKnown = (" " + KNOWN + " ").contains(" " + word + " ");
        if (!isKnown) {
            Due.same("word of " + word, Due.read(word).word(0), -1);
        }
    }

    @Due.Says("or t is no application")
    static void promise12_noApplication() {
        TextTerms x = Due.read("{5;\"unit\";0xadd0;unit}");
        int[] want = {-1, -1, -1, -1, 0};
        for (int t = 0; t < want.length; t++) {
            Due.same("word(" + t + ")", x.word(t), want[t]);
        }
    }

    @Due.Says("NONE when it is not known, or t is no application.")
    static void promise12_noSuchTerm() {
        TextTerms x = Due.read(TEXT);
        Due.same("word(6)", x.word(TERMS), -1);
        for (int t : Due.NO_TERMS) {
            Due.same("word(" + t + ")", x.word(t), -1);
        }
        Due.same("word(4), of before", withFewerThanBefore().word(4), -1);
        Due.same("word(4) behind a refused text", withRefused().word(4), -1);
    }

    // Promises 13 and 14.

    @Due.Says("A term BEGINS and ENDS where its token does")
    static void promise13_whereItsTokenBegins() {
        TextTerms x = Due.read(TEXT);
        int[] want = {0, 2, 8, 16, 25, 35};
        for (int t = 0; t < TERMS; t++) {
            Due.same("begins(" + t + ")", x.begins(t), want[t]);
        }
    }

    @Due.Says("Where it begins")
    static void promise13_atTheFirstByteOrBehindBlanks() {
        String[] texts = {"5", "-5", "\"\"", "0x", "{}", "a"};
        for (String text : texts) {
            Due.same("begins(0) of <" + text + ">", Due.read(text).begins(0), 0);
            TextTerms x = Due.read(" #a\n" + text);
            Due.same("begins(0) of <" + text + "> behind blanks", x.begins(0), 4);
        }
    }

    @Due.Says("an application at its word")
    static void promise13_anApplicationInParenthesesAtItsWord() {
        TextTerms x = Due.read("a ( b ) ( # c\n d 5)");
        Due.same("begins(1)", x.begins(1), 4);
        Due.same("begins(2)", x.begins(2), 15);
    }

    @Due.Says("NONE when there is no such term.")
    static void promise13_noSuchTerm() {
        TextTerms x = Due.read(TEXT);
        Due.same("begins(6)", x.begins(TERMS), -1);
        for (int t : Due.NO_TERMS) {
            Due.same("begins(" + t + ")", x.begins(t), -1);
        }
        Due.same("begins(1), of before", withFewerThanBefore().begins(1), -1);
        Due.same("begins(0) behind a refused text", withRefused().begins(0), -1);
    }

    @Due.Says("one more than its last byte")
    static void promise14_oneMoreThanItsLastByte() {
        TextTerms x = Due.read(TEXT);
        int[] want = {42, 5, 13, 22, 29, 39};
        for (int t = 0; t < TERMS; t++) {
            Due.same("ends(" + t + ")", x.ends(t), want[t]);
        }
    }

    @Due.Says("one more than its last byte")
    static void promise14_atTheTextsEndOrBeforeBlanks() {
        String[] texts = {"5", "-5", "\"\"", "0x", "{}", "a"};
        for (String text : texts) {
            Due.same("ends(0) of <" + text + ">", Due.read(text).ends(0), text.length());
            TextTerms x = Due.read(text + " #a\n");
            Due.same("ends(0) of <" + text + "> before blanks", x.ends(0), text.length());
        }
    }

    @Due.Says("a sequence ends behind its }")
    static void promise14_aSequenceBehindItsClosing() {
        TextTerms x = Due.read("{ { } ; {{} ; } }");
        int[] want = {17, 5, 15, 11};
        for (int t = 0; t < want.length; t++) {
            Due.same("ends(" + t + ")", x.ends(t), want[t]);
        }
    }

    @Due.Says("an application where its word does")
    static void promise14_anApplicationBehindItsWord() {
        TextTerms x = Due.read("abc %m ( de f ) {}");
        int[] want = {3, 11, 13, 18};
        for (int t = 0; t < want.length; t++) {
            Due.same("ends(" + t + ")", x.ends(t), want[t]);
        }
    }

    @Due.Says("NONE when there is no such term.")
    static void promise14_noSuchTerm() {
        TextTerms x = Due.read(TEXT);
        Due.same("ends(6)", x.ends(TERMS), -1);
        for (int t : Due.NO_TERMS) {
            Due.same("ends(" + t + ")", x.ends(t), -1);
        }
        Due.same("ends(1), of before", withFewerThanBefore().ends(1), -1);
        Due.same("ends(0) behind a refused text", withRefused().ends(0), -1);
    }

    // Promise 15.

    @Due.Says("Character i (from 0) of an application's mark, without the %")
    static void promise15_withoutThePercentSign() {
        TextTerms x = Due.read(TEXT);
        Due.same("mark(4, 0)", x.mark(4, 0), 'm');
        Due.same("mark(4, 1)", x.mark(4, 1), '1');
    }

    @Due.Says("Character i (from 0) of an application's mark")
    static void promise15_shortestAndLongest() {
        String most = "0123456789_abcdefghijklmnopABCD";
        TextTerms x = Due.read("a %Z (b %" + most + "E)");
        Due.same("mark(0, 0)", x.mark(0, 0), 'Z');
        Due.same("mark(0, 1)", x.mark(0, 1), -1);
        for (int i = 0; i < 31; i++) {
            Due.same("mark(1, " + i + ")", x.mark(1, i), most.charAt(i));
        }
        Due.same("mark(1, 31)", x.mark(1, 31), -1);
        Due.same("mark(2, 0)", x.mark(2, 0), -1);
        Due.same("part(2, 0)", x.part(2, 0), 'E');
    }

    @Due.Says("NONE when there is none such")
    static void promise15_noneSuchPlace() {
        TextTerms x = Due.read(TEXT);
        Due.same("mark(4, 2)", x.mark(4, 2), -1);
        for (int i : NO_PLACES) {
            Due.same("mark(4, " + i + ")", x.mark(4, i), -1);
        }
    }

    @Due.Says("NONE when there is none such")
    static void promise15_noMark() {
        TextTerms x = Due.read("{ a ; b c ; d %e (f) ; 5 ; \"%s\" ; 0xab }");
        for (int t = 0; t < x.count(); t++) {
            Due.same("mark(" + t + ", 0)", x.mark(t, 0), t == 4 ? 'e' : -1);
            Due.same("mark(" + t + ", -1)", x.mark(t, -1), -1);
            Due.same("mark(" + t + ", 1)", x.mark(t, 1), -1);
        }
    }

    @Due.Says("NONE when there is none such")
    static void promise15_noMarkOfATextBefore() {
        TextTerms x = Due.read("a %bcd");
        x.end(0);
        Due.feed(x, Due.bytes("a  bcd"), 0);
        Due.same("read()", x.read(), -1);
        Due.same("mark(0, 0)", x.mark(0, 0), -1);
    }

    @Due.Says("or no such term")
    static void promise15_noSuchTerm() {
        TextTerms x = Due.read(TEXT);
        Due.same("mark(6, 0)", x.mark(TERMS, 0), -1);
        for (int t : Due.NO_TERMS) {
            Due.same("mark(" + t + ", 0)", x.mark(t, 0), -1);
            Due.same("mark(" + t + ", -1)", x.mark(t, -1), -1);
        }
        Due.same("mark(4, 0), of before", withFewerThanBefore().mark(4, 0), -1);
        Due.same("mark(4, 0) behind a refused text", withRefused().mark(4, 0), -1);
    }

    // Promise 16.

    @Due.Says("How many bytes a string or bytes mean")
    static void promise16_emptyStringAndNoBytes() {
        Due.same("length of an empty string", Due.read("\"\"").length(0), 0);
        Due.same("length of no bytes", Due.read("0x").length(0), 0);
    }

    @Due.Says("How many bytes a string or bytes mean")
    static void promise16_longestStringAndBytes() {
        Due.same("length of a string", Due.read("\"" + "s".repeat(9998) + "\"").length(0), 9998);
        String escapes = "\"" + "\\n\\\"\\\\".repeat(1600) + "\"";
        Due.same("length of escapes", Due.read(escapes).length(0), 4800);
        Due.same("length of bytes", Due.read("0x" + "fF".repeat(4999)).length(0), 4999);
    }

    @Due.Says("How many bytes a string or bytes mean")
    static void promise16_anEscapeIsOneByte() {
        String[] texts = {"\"\\n\"", "\"\\\\\"", "\"\\\"\"", "\"n\""};
        for (String text : texts) {
            Due.same("length of <" + text + ">", Due.read(text).length(0), 1);
        }
        Due.same("length of a \\ and an n", Due.read("\"\\\\n\"").length(0), 2);
    }

    @Due.Says("how many letters a word has")
    static void promise16_shortestAndLongestWord() {
        Due.same("length of a", Due.read("a").length(0), 1);
        Due.same("length of _", Due.read("_").length(0), 1);
        Due.same("length of the longest", Due.read("w".repeat(10000)).length(0), 10000);
        Due.same("length of one with a mark", Due.read("ab_9 %mark c").length(0), 4);
    }

    @Due.Says("how many bits the size of a number")
    static void promise16_bitsOf0() {
        String[] texts = {"0", "-0", "000", "-000"};
        for (String text : texts) {
            Due.same("length of " + text, Due.read(text).length(0), 0);
        }
    }

    @Due.Says("how many bits the size of a number")
    static void promise16_bitsAtEveryPowerOfTwo() {
        for (int k = 0; k < 1024; k++) {
            BigInteger power = BigInteger.ONE.shiftLeft(k);
            Due.same("length of 2^" + k, Due.read("" + power).length(0), k + 1);
            String below = "-0" + power.subtract(BigInteger.ONE);
            Due.same("length of 1 - 2^" + k, Due.read(below).length(0), k);
        }
    }

    @Due.Says("how many bits the size of a number")
    static void promise16_bitsOfTheLargest() {
        Due.same("length of 2^1024 - 1", Due.read("" + LARGEST).length(0), 1024);
        Due.same("length of 1 - 2^1024", Due.read("-" + LARGEST).length(0), 1024);
        String zeros = "0".repeat(9000) + LARGEST;
        Due.same("length behind needless zeros", Due.read(zeros).length(0), 1024);
    }

    @Due.Says("NONE for a sequence")
    static void promise16_sequence() {
        Due.same("length of {}", Due.read("{}").length(0), -1);
        Due.same("length of {1;2}", Due.read("{1;2}").length(0), -1);
    }

    @Due.Says("or when there is no such term")
    static void promise16_noSuchTerm() {
        TextTerms x = Due.read(TEXT);
        Due.same("length(6)", x.length(TERMS), -1);
        for (int t : Due.NO_TERMS) {
            Due.same("length(" + t + ")", x.length(t), -1);
        }
        Due.same("length(1), of before", withFewerThanBefore().length(1), -1);
        Due.same("length(1) behind a refused text", withRefused().length(1), -1);
    }

    // Promise 17.

    private static void parts(String text, int... want) {
        TextTerms x = Due.read(text);
        for (int i = 0; i < want.length; i++) {
            Due.same("part(0, " + i + ") of <" + text + ">", x.part(0, i), want[i]);
        }
        Due.same("part(0, " + want.length + ") of <" + text + ">", x.part(0, want.length), -1);
    }

    @Due.Says("Byte i (from 0) of what a string or bytes mean")
    static void promise17_everyByteOfStrings() {
        for (int c = 32; c < 127; c++) {
            String escape = c == '"' || c == '\\' ? "\\" : "";
            parts("\"" + escape + (char) c + "\"", c);
        }
        parts("\"\\n\"", 10);
        parts("\"\\\\n\\n\\\"\"", 92, 'n', 10, 34);
    }

    @Due.Says("Byte i (from 0) of what a string or bytes mean")
    static void promise17_everyByteOfBytes() {
        for (int b = 0; b < 256; b++) {
            String digits = String.format("%02x", b);
            parts("0x" + digits, b);
            parts("0x00" + digits.toUpperCase() + digits, 0, b, b);
        }
    }

    @Due.Says("of a word")
    static void promise17_everyByteOfAWord() {
        parts("_", '_');
        parts("azAZ09_", 'a', 'z', 'A', 'Z', '0', '9', '_');
        parts("ab %cd ef", 'a', 'b');
    }

    @Due.Says("Byte i (from 0)")
    static void promise17_lastOfTheLongest() {
        TextTerms string = Due.read("\"" + "s".repeat(9000) + "\\n\"");
        Due.same("part(0, 9000) of a string", string.part(0, 9000), 10);
        Due.same("part(0, 9001) of a string", string.part(0, 9001), -1);
        TextTerms bytes = Due.read("0x" + "00".repeat(4998) + "fe");
        Due.same("part(0, 4998) of bytes", bytes.part(0, 4998), 254);
        Due.same("part(0, 4999) of bytes", bytes.part(0, 4999), -1);
        TextTerms word = Due.read("w".repeat(9999) + "Z");
        Due.same("part(0, 9999) of a word", word.part(0, 9999), 'Z');
        Due.same("part(0, 10000) of a word", word.part(0, 10000), -1);
    }

    @Due.Says("bit i of a number's size, the lowest first")
    static void promise17_lowestBitFirst() {
        parts("1", 1);
        parts("2", 0, 1);
        parts("-6", 0, 1, 1);
        parts("0011", 1, 1, 0, 1);
        parts("-8", 0, 0, 0, 1);
    }

    @Due.Says("bit i of a number's size, the lowest first")
    static void promise17_lowestAndHighestBitOfEveryPowerOfTwo() {
        for (int k = 1; k < 1024; k++) {
            TextTerms x = Due.read("-" + BigInteger.ONE.shiftLeft(k).add(BigInteger.ONE));
            Due.same("bit 0 of 2^" + k + " + 1", x.part(0, 0), 1);
            Due.same("bit k of 2^" + k + " + 1", x.part(0, k), 1);
            Due.same("bit k - 1 of 2^" + k + " + 1", x.part(0, k - 1), k == 1 ? 1 : 0);
            Due.same("bit k + 1 of 2^" + k + " + 1", x.part(0, k + 1), -1);
        }
    }

    @Due.Says("bit i of a number's size, the lowest first")
    static void promise17_bitsOfTheLargest() {
        for (int from = 0; from < 1024; from += 256) {
            TextTerms x = Due.read((from < 512 ? "" : "-") + LARGEST);
            for (int i = from; i < from + 256; i++) {
                Due.same("bit " + i, x.part(0, i), 1);
            }
            Due.same("bit 1024", x.part(0, 1024), -1);
        }
    }

    @Due.Says("NONE when there is none such")
    static void promise17_noneOfWhatIsEmpty() {
        String[] texts = {"\"\"", "0x", "0", "-0", "000"};
        for (String text : texts) {
            parts(text);
            Due.same("part(0, 1) of <" + text + ">", Due.read(text).part(0, 1), -1);
            Due.same("part(0, -1) of <" + text + ">", Due.read(text).part(0, -1), -1);
        }
    }

    @Due.Says("NONE when there is none such")
    static void promise17_noneSuchPlace() {
        TextTerms x = Due.read(TEXT);
        int[] lengths = {0, 4, 2, 2, 4, 4};
        for (int t = 0; t < TERMS; t++) {
            Due.same("part(" + t + ", its length)", x.part(t, lengths[t]), -1);
            for (int i : NO_PLACES) {
                Due.same("part(" + t + ", " + i + ")", x.part(t, i), -1);
            }
        }
    }

    @Due.Says("for a sequence")
    static void promise17_sequence() {
        TextTerms x = Due.read("{1;2}");
        for (int i = -1; i < 4; i++) {
            Due.same("part(0, " + i + ")", x.part(0, i), -1);
            Due.same("part(0, " + i + ") of {}", Due.read("{}").part(0, i), -1);
        }
    }

    @Due.Says("or when there is no such term")
    static void promise17_noSuchTerm() {
        TextTerms x = Due.read(TEXT);
        Due.same("part(6, 0)", x.part(TERMS, 0), -1);
        for (int t : Due.NO_TERMS) {
            Due.same("part(" + t + ", 0)", x.part(t, 0), -1);
            Due.same("part(" + t + ", -1)", x.part(t, -1), -1);
        }
        Due.same("part(1, 0), of before", withFewerThanBefore().part(1, 0), -1);
        Due.same("part(1, 0) behind a refused text", withRefused().part(1, 0), -1);
    }

    // Promise 18.

    @Due.Says("Whether a number is below 0")
    static void promise18_belowAndAbove0() {
        Due.holds("-1 is", Due.read("-1").isNegative(0));
        Due.holds("1 is not", !Due.read("1").isNegative(0));
        Due.holds("-001 is", Due.read("-001").isNegative(0));
        Due.holds("-10 is", Due.read("-10").isNegative(0));
        Due.holds("1 - 2^1024 is", Due.read("-" + LARGEST).isNegative(0));
        Due.holds("2^1024 - 1 is not", !Due.read("" + LARGEST).isNegative(0));
    }

    @Due.Says("-0 is 0")
    static void promise18_minus0IsNotBelow0() {
        String[] texts = {"0", "-0", "-00", "-" + "0".repeat(9000)};
        for (String text : texts) {
            Due.holds("-0 of " + text.length() + " is not", !Due.read(text).isNegative(0));
        }
    }

    @Due.Says("false for other terms")
    static void promise18_otherTerms() {
        TextTerms x = Due.read("{\"-5\";0x85;a -5}");
        boolean[] want = {false, false, false, false, true};
        for (int t = 0; t < want.length; t++) {
            Due.holds("isNegative(" + t + ")", x.isNegative(t) == want[t]);
        }
    }

    @Due.Says("or when there is no such term")
    static void promise18_noSuchTerm() {
        TextTerms x = Due.read(TEXT);
        Due.holds("isNegative(1)", x.isNegative(1));
        Due.holds("isNegative(6) is false", !x.isNegative(TERMS));
        for (int t : Due.NO_TERMS) {
            Due.holds("isNegative(" + t + ") is false", !x.isNegative(t));
        }
        Due.holds("isNegative(1), of before, is false", !withFewerThanBefore().isNegative(1));
        Due.holds("isNegative(1) behind a refused text", !withRefused().isNegative(1));
    }
}
