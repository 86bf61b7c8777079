import java.math.BigInteger;

/** Promises 12 to 18: word, begins, ends, mark, length, part, isNegative. */
public final class TokensTest {
    private static final String KNOWN = "unit bool int nat mutez string bytes address timestamp"
        + " operation option list set contract or map big_map lambda pair Unit True False None"
        + " Some Left Right Pair Elt parameter storage code DROP DUP SWAP DIG DUG PUSH DIP UNIT"
        + " PAIR UNPAIR CAR CDR SOME NONE LEFT RIGHT NIL CONS EMPTY_SET EMPTY_MAP EMPTY_BIG_MAP"
        + " IF IF_NONE IF_LEFT IF_CONS LOOP LOOP_LEFT ITER MAP FAILWITH LAMBDA EXEC APPLY ADD"
        + " SUB SUB_MUTEZ MUL EDIV NEG ABS INT ISNAT AND OR XOR NOT LSL LSR COMPARE EQ NEQ LT"
        + " GT LE GE CONCAT SLICE SIZE MEM GET UPDATE GET_AND_UPDATE PACK UNPACK AMOUNT BALANCE"
        + " SENDER SOURCE SELF_ADDRESS NOW LEVEL SELF ADDRESS CONTRACT TRANSFER_TOKENS"
        + " CREATE_CONTRACT";

    public static void main(String[] args) {
        knownWords();
        unknownWords();
        noWords();
        places();
        marks();
        noMarks();
        lengths();
        stringParts();
        bytesParts();
        wordParts();
        numbers();
        noParts();
        Due.close();
    }

    private static void knownWords() {
        String[] words = KNOWN.split(" ");
        Due.same("known words", words.length, 107);
        TextTerms asItems = Due.read("{" + String.join(";", words) + "}");
        TextTerms asArguments = Due.read("x " + String.join(" ", words));
        for (int i = 0; i < words.length; i++) {
            Due.same("word of " + words[i], asItems.word(i + 1), i);
            Due.same("word of the argument " + words[i], asArguments.word(i + 1), i);
        }
    }

    private static void unknownWords() {
        String[] words = {"x", "_", "Unitt", "uni", "UNIt", "nit", "IF_", "_IF", "IF_NON", "in",
            "intt", "CREATE_CONTRAC", "CREATE_CONTRACTS", "EMPTY", "e", "GET_AND", "SELF_", "pai",
            "operationoption", "DROP0", "a1", "UNITPAIR", "codeDROP"};
        for (String word : words) {
            Due.same("word of " + word, Due.read(word).word(0), -1);
        }
    }

    private static void noWords() {
        TextTerms x = Due.read("pair 5 \"unit\" 0xadd0 {unit}");
        int[] want = {18, -1, -1, -1, -1, 0};
        for (int t = 0; t < want.length; t++) {
            Due.same("word(" + t + ")", x.word(t), want[t]);
        }
        Due.same("word(6)", x.word(6), -1);
        Due.same("word(-1)", x.word(-1), -1);
    }

    private static void places() {
        TextTerms x = Due.read(" ab %c ( de \"f\\\"\" ) { 0x1F ; -07 ;{ } # }\n } # end");
        int[] begins = {1, 9, 12, 20, 22, 29, 34};
        int[] ends = {3, 11, 17, 44, 26, 32, 37};
        for (int t = 0; t < begins.length; t++) {
            Due.same("begins(" + t + ")", x.begins(t), begins[t]);
            Due.same("ends(" + t + ")", x.ends(t), ends[t]);
        }
        int[] wrong = {7, -1, 4096, Integer.MAX_VALUE, Integer.MIN_VALUE};
        for (int t : wrong) {
            Due.same("begins(" + t + ")", x.begins(t), -1);
            Due.same("ends(" + t + ")", x.ends(t), -1);
        }
    }

    private static void marks() {
        TextTerms x = Due.read("a %A_9 (b%0123456789012345678901234567890) c");
        Due.same("mark(0, 0)", x.mark(0, 0), 'A');
        Due.same("mark(0, 1)", x.mark(0, 1), '_');
        Due.same("mark(0, 2)", x.mark(0, 2), '9');
        Due.same("mark(0, 3)", x.mark(0, 3), -1);
        Due.same("mark(0, -1)", x.mark(0, -1), -1);
        for (int i = 0; i < 31; i++) {
            Due.same("mark(1, " + i + ")", x.mark(1, i), '0' + i % 10);
        }
        Due.same("mark(1, 31)", x.mark(1, 31), -1);
        Due.same("mark(1, largest)", x.mark(1, Integer.MAX_VALUE), -1);
        Due.same("mark(1, smallest)", x.mark(1, Integer.MIN_VALUE), -1);
        Due.same("mark(2, 0)", x.mark(2, 0), -1);
        TextTerms cut = Due.read("a %" + "b".repeat(31) + "c");
        Due.same("the 31st", cut.mark(0, 30), 'b');
        Due.same("no 32nd", cut.mark(0, 31), -1);
        Due.same("another token behind it", cut.part(1, 0), 'c');
        Due.same("it begins there", cut.begins(1), 34);
    }

    private static void noMarks() {
        TextTerms x = Due.read("{5;\"%a\";0x12;a b;c %d}");
        for (int t = 0; t < 6; t++) {
            Due.same("mark(" + t + ", 0)", x.mark(t, 0), -1);
            Due.same("mark(" + t + ", -1)", x.mark(t, -1), -1);
        }
        Due.same("mark(6, 0)", x.mark(6, 0), 'd');
        Due.same("mark(7, 0)", x.mark(7, 0), -1);
        Due.same("mark(-1, 0)", x.mark(-1, 0), -1);
    }

    private static void lengths() {
        TextTerms x = Due.read("a_1 %mark \"\" \"a\\\\\\n\\\"b\" 0x 0x010203 {1} 0 -0 255 256 -1");
        int[] want = {3, 0, 5, 0, 3, -1, 1, 0, 0, 8, 9, 1};
        for (int t = 0; t < want.length; t++) {
            Due.same("length(" + t + ")", x.length(t), want[t]);
        }
        Due.same("length(12)", x.length(12), -1);
        Due.same("length(-1)", x.length(-1), -1);
    }

    private static void parts(TextTerms x, int t, int... want) {
        for (int i = 0; i < want.length; i++) {
            Due.same("part(" + t + ", " + i + ")", x.part(t, i), want[i]);
        }
        int[] wrong = {want.length, want.length + 1, -1, Integer.MAX_VALUE, Integer.MIN_VALUE};
        for (int i : wrong) {
            Due.same("part(" + t + ", " + i + ")", x.part(t, i), -1);
        }
        Due.same("length(" + t + ")", x.length(t), want.length);
    }

    private static void stringParts() {
        parts(Due.read("\"\""), 0);
        parts(Due.read("\"a\""), 0, 'a');
        parts(Due.read("\"\\\\\""), 0, 92);
        parts(Due.read("\"\\\\n\""), 0, 92, 'n');
        parts(Due.read("\"\\n\\\"\\\\\""), 0, 10, 34, 92);
        parts(Due.read("\" \\n~n\""), 0, 32, 10, 126, 'n');
    }

    private static void bytesParts() {
        parts(Due.read("0x"), 0);
        parts(Due.read("0x00"), 0, 0);
        parts(Due.read("0x09aFAf90fF"), 0, 9, 0xaf, 0xaf, 0x90, 255);
        parts(Due.read("a 0xabcdefABCDEF"), 1, 0xab, 0xcd, 0xef, 0xab, 0xcd, 0xef);
    }

    private static void wordParts() {
        parts(Due.read("a"), 0, 'a');
        parts(Due.read("z (_Z9%m)"), 1, '_', 'Z', '9');
    }

    private static void numbers() {
        BigInteger limit = BigInteger.ONE.shiftLeft(1024);
        BigInteger[] sizes = {BigInteger.ZERO, BigInteger.ONE, BigInteger.TWO,
            BigInteger.valueOf(999999999), BigInteger.valueOf(1000000000),
            BigInteger.valueOf(4294967295L), BigInteger.valueOf(4294967296L),
            BigInteger.ONE.shiftLeft(1023), BigInteger.TEN.pow(308), BigInteger.TEN.pow(18),
            limit.subtract(BigInteger.ONE), limit.subtract(BigInteger.TWO)};
        for (BigInteger size : sizes) {
            number("" + size, size, false);
            number("-" + size, size, size.signum() > 0);
            number("000" + size, size, false);
            number("-0" + size, size, size.signum() > 0);
        }
    }

    private static void number(String text, BigInteger size, boolean negative) {
        TextTerms x = Due.read(text);
        Due.same("length of " + text, x.length(0), size.bitLength());
        Due.holds("below 0 or not: " + text, x.isNegative(0) == negative);
        int step = size.bitLength() > 100 ? 7 : 1;
        for (int i = 0; i < size.bitLength(); i += step) {
            Due.same("bit " + i + " of " + text, x.part(0, i), size.testBit(i) ? 1 : 0);
        }
        int[] wrong = {size.bitLength(), size.bitLength() + 1, -1, 1024, Integer.MAX_VALUE,
            Integer.MIN_VALUE};
        for (int i : wrong) {
            Due.same("bit " + i + " of " + text, x.part(0, i), -1);
        }
    }

    private static void noParts() {
        TextTerms x = Due.read("{-5;\"-5\";0x05;a -7}");
        boolean[] negative = {false, true, false, false, false, true};
        for (int t = 0; t < negative.length; t++) {
            Due.holds("isNegative(" + t + ")", x.isNegative(t) == negative[t]);
        }
        Due.same("part of a sequence", x.part(0, 0), -1);
        int[] wrong = {6, -1, 4096, Integer.MAX_VALUE, Integer.MIN_VALUE};
        for (int t : wrong) {
            Due.same("part(" + t + ", 0)", x.part(t, 0), -1);
            Due.same("length(" + t + ")", x.length(t), -1);
            Due.holds("isNegative(" + t + ")", !x.isNegative(t));
        }
    }
}
