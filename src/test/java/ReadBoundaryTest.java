import java.math.BigInteger;

/**
 * Promise 5 and the section "Terms", sentence by sentence: the boundary cases of tokens, of the
 * grammar, and of the places at which a text is refused.
 */
public final class ReadBoundaryTest {
    private static final BigInteger TOO_LARGE = BigInteger.ONE.shiftLeft(1024);
    private static final String LIMIT = TOO_LARGE.toString();
    private static final String BELOW = TOO_LARGE.subtract(BigInteger.ONE).toString();
    private static final String ABOVE = TOO_LARGE.add(BigInteger.ONE).toString();
    // One term of each kind: a number, a string, bytes, a sequence, an application.
    private static final String[] EACH_KIND = {"5", "\"s\"", "0xab", "{}", "b"};
    private static final String MARK_31 = "%" + "m".repeat(31);

    public static void main(String[] args) {
        Due.runAll(ReadBoundaryTest.class);
    }

    /** That the text is read, and that its terms are of these kinds. */
    private static void kinds(String text, int... want) {
        TextTerms x = Due.read(text);
        Due.same("count of <" + text + ">", x.count(), want.length);
        for (int t = 0; t < want.length; t++) {
            Due.same("kind(" + t + ") of <" + text + ">", x.kind(t), want[t]);
        }
    }

    private static void count(String text, int want) {
        TextTerms x = Due.read(text);
        Due.same("count of a text of " + text.length(), x.count(), want);
    }

    private static void answers(String text, int want) {
        Due.same("read of <" + text + ">", Due.fed(text).read(), want);
    }

    private static boolean isBlank(int c) {
        return c == 32 || c == 9 || c == 10 || c == 13;
    }

    private static boolean isDigit(int c) {
        return "0123456789".indexOf(c) >= 0;
    }

    private static boolean isHex(int c) {
        return "0123456789abcdefABCDEF".indexOf(c) >= 0;
    }

    private static boolean isLetter(int c) {
        return "abcdefghijklmnopqrstuvwxyzABCDEFGHIJKLMNOPQRSTUVWXYZ".indexOf(c) >= 0;
    }

    private static boolean isOfWord(int c) {
        return isLetter(c) || isDigit(c) || c == '_';
    }

    // Blanks.

    @Due.Says("BLANKS are 32, 9, 10, 13")
    static void promise05_blanks_areThese4AndNoOther() {
        for (int c = 0; c < 256; c++) {
            boolean more = isBlank(c) || c == '#' || isDigit(c);
            answers("5" + (char) c, more ? -1 : 1);
        }
    }

    @Due.Says("BLANKS are 32, 9, 10, 13")
    static void promise05_blanks_standBeforeAndBehindAllTokens() {
        kinds(" \t\n\r5\r\n\t ", 0);
        kinds(" { \t a \n %b\r(\tc ) \n ; } ", 3, 4, 4);
    }

    @Due.Says("# with all up to the next 10")
    static void promise05_blanks_remarkGoesUpToTheNext10() {
        kinds("#\n5", 0);
        kinds("# } \r 6 \n5", 0);
        kinds("a # b\n c # d\n", 4, 4);
        Due.refused("# a\n# b\n@", 8);
        Due.refused("5 # a\n6", 6);
    }

    @Due.Says("# with all up to the next 10 or the end")
    static void promise05_blanks_remarkGoesUpToTheEnd() {
        kinds("5#", 0);
        kinds("5 # 6", 0);
        kinds("5#\n#", 0);
        Due.refused("#", 1);
        Due.refused("# 5", 3);
    }

    @Due.Says("# with all up to the next 10 or the end")
    static void promise05_blanks_remarkHoldsEveryByteBut10() {
        for (int c = 0; c < 256; c++) {
            answers("5#" + (char) c + "6", c == 10 ? 3 : -1);
        }
    }

    @Due.Says("with blanks between them or none")
    static void promise05_blanks_noneBetweenTokens() {
        kinds("a%b\"c\"0x{}(d)5-6\"\"e", 4, 1, 2, 3, 4, 0, 0, 1, 4);
        kinds("{5;a;}", 3, 0, 4);
    }

    @Due.Says("with blanks between them or none")
    static void promise05_blanks_noneInsideTokens() {
        Due.refused("- 5", 0);
        Due.refused("0 x12", 2);
        Due.refused("a % b", 2);
        kinds("a 1 2", 4, 0, 0);
        kinds("a b c", 4, 4, 4);
        kinds("a 0x12 34", 4, 2, 0);
    }

    // Numbers.

    @Due.Says("digits, one at least")
    static void promise05_number_hasOneDigitAtLeast() {
        kinds("-1", 0);
        Due.refused("-", 0);
        Due.refused("a -", 2);
        Due.refused("a -b", 2);
        for (int c = 0; c < 256; c++) {
            answers("-" + (char) c, isDigit(c) ? -1 : 0);
        }
    }

    @Due.Says("- or nothing")
    static void promise05_number_hasOneSignAtMost() {
        Due.refused("--5", 0);
        Due.refused("+5", 0);
        Due.refused("a 5-", 3);
        kinds("a 5-6", 4, 0, 0);
    }

    @Due.Says("the longest one that there is")
    static void promise05_number_isTheLongest() {
        kinds("a 123", 4, 0);
        kinds("a 12b", 4, 0, 4);
        kinds("a 12\"\"", 4, 0, 1);
        kinds("a -12-34", 4, 0, 0);
    }

    @Due.Says("needless zeros may stand")
    static void promise05_number_needlessZeros() {
        kinds("00", 0);
        kinds("-00", 0);
        kinds("-0007", 0);
        kinds("0".repeat(10000), 0);
        kinds("0".repeat(9000) + BELOW, 0);
        kinds("-" + "0".repeat(9000) + BELOW, 0);
    }

    @Due.Says("-0 is 0")
    static void promise05_number_minus0Is0() {
        TextTerms x = Due.read("a 0 -0");
        Due.same("length(1)", x.length(1), x.length(2));
        Due.same("part(1, 0)", x.part(1, 0), x.part(2, 0));
        Due.holds("isNegative(2) is false", !x.isNegative(2));
    }

    // Bytes.

    @Due.Says("an even number of digits 0-9 a-f A-F, perhaps none")
    static void promise05_bytes_perhapsNoDigits() {
        kinds("0x", 2);
        kinds("a 0x 0x", 4, 2, 2);
        kinds("a 0xg", 4, 2, 4);
        kinds("{0x}", 3, 2);
    }

    @Due.Says("digits 0-9 a-f A-F")
    static void promise05_bytes_digitsAreTheseAndNoOther() {
        for (int c = 0; c < 256; c++) {
            answers("0x1" + (char) c, isHex(c) ? -1 : 0);
        }
    }

    @Due.Says("is no token if these are odd in number")
    static void promise05_bytes_oddIsNoToken() {
        Due.refused("0x1", 0);
        Due.refused("0x123", 0);
        Due.refused("a 0xf b", 2);
        Due.refused("a 0x12345g", 2);
        Due.refused("0x" + "a".repeat(9999), 0);
        kinds("0x" + "a".repeat(10000), 2);
    }

    @Due.Says("What begins with 0x goes over all digits 0-9 a-f A-F behind it")
    static void promise05_bytes_goOverAllDigits() {
        kinds("a 0xabgh", 4, 2, 4);
        kinds("a 0xab_c", 4, 2, 4);
        kinds("a 0xab-1", 4, 2, 0);
        Due.refused("a 0x120x34", 2);
        Due.refused("a 0xabcgh", 2);
    }

    @Due.Says("0x and an even number")
    static void promise05_bytes_beginWith0AndSmallX() {
        kinds("a 0X12", 4, 0, 4);
        kinds("a 00x12", 4, 0, 4);
        kinds("a -0x12", 4, 0, 4);
        kinds("a 1x12", 4, 0, 4);
        kinds("x0x12", 4);
    }

    // Strings.

    @Due.Says("characters 32 .. 126 but \" and \\")
    static void promise05_string_charactersAreTheseAndNoOther() {
        for (int c = 0; c < 256; c++) {
            int want = c >= 32 && c <= 126 && c != '\\' ? -1 : 0;
            answers("\"" + (char) c + "\"", c == '"' ? 2 : want);
        }
    }

    @Due.Says("\\\\ (a \\), \\\" (a \"), \\n (a 10)")
    static void promise05_string_escapesAreTheseAndNoOther() {
        for (int c = 0; c < 256; c++) {
            boolean stands = c == '\\' || c == '"' || c == 'n';
            answers("\"\\" + (char) c + "\"", stands ? -1 : 0);
        }
    }

    @Due.Says("a STRING: \", then characters")
    static void promise05_string_empty() {
        kinds("\"\"", 1);
        kinds("a\"\"\"\"", 4, 1, 1);
    }

    @Due.Says("then \"")
    static void promise05_string_notClosedIsNoToken() {
        Due.refused("\"", 0);
        Due.refused("\"abc", 0);
        Due.refused("a \"bc ", 2);
        Due.refused("\"\\", 0);
        Due.refused("\"\\\"", 0);
        Due.refused("\"a\\\\\\\"", 0);
        Due.refused("{\"a\";\"b}", 5);
        kinds("\"a\\\\\"", 1);
    }

    @Due.Says("a STRING: \", then characters")
    static void promise05_string_noRemarkInside() {
        kinds("\"#\"", 1);
        kinds("a \"#\" b", 4, 1, 4);
    }

    // Words and marks.

    @Due.Says("a WORD: a letter or _")
    static void promise05_word_beginsWithLetterOrLowLine() {
        for (int c = 0; c < 256; c++) {
            TextTerms x = Due.fed("{" + (char) c + ";}");
            x.read();
            Due.same("kind(1) of <{" + (char) c + ";}>", x.kind(1),
                isLetter(c) || c == '_' ? 4 : isDigit(c) ? 0 : -1);
        }
    }

    @Due.Says("then letters, digits, _")
    static void promise05_word_goesOnWithLettersDigitsLowLine() {
        for (int c = 0; c < 256; c++) {
            TextTerms x = Due.fed("a" + (char) c + "b");
            x.read();
            boolean alone = isOfWord(c) || c == '#' || c == '%';
            Due.same("count of <a" + (char) c + "b>", x.count(), alone ? 1 : isBlank(c) ? 2 : 0);
            Due.same("length(0) of <a" + (char) c + "b>", x.length(0),
                isOfWord(c) ? 3 : alone || isBlank(c) ? 1 : -1);
        }
    }

    @Due.Says("a WORD")
    static void promise05_word_ofAnyLength() {
        TextTerms x = Due.read("w".repeat(10000));
        Due.same("length(0)", x.length(0), 10000);
        Due.same("count()", x.count(), 1);
    }

    @Due.Says("1 to 31 letters, digits, _")
    static void promise05_mark_hasOneAtLeast() {
        Due.refused("a %", 2);
        Due.refused("a %%b", 2);
        for (int c = 0; c < 256; c++) {
            answers("a%" + (char) c, isOfWord(c) ? -1 : 1);
        }
    }

    @Due.Says("1 to 31 letters, digits, _")
    static void promise05_mark_has31AtMost() {
        kinds("a %" + "m".repeat(30), 4);
        kinds("a " + MARK_31, 4);
        kinds("a " + MARK_31 + "m", 4, 4);
    }

    @Due.Says("behind the 31st another token begins")
    static void promise05_mark_anotherTokenBehindThe31st() {
        kinds("a " + MARK_31 + "_b c", 4, 4, 4);
        kinds("a " + MARK_31 + "12", 4, 0);
        kinds("a " + MARK_31 + "12b", 4, 0, 4);
        kinds("a " + MARK_31 + "0x12", 4, 2);
        Due.refused("a " + MARK_31 + "0x1", 34);
        Due.refused("a " + MARK_31 + MARK_31, 34);
        kinds("a " + MARK_31 + "m".repeat(32), 4, 4);
    }

    @Due.Says("{ } ( ) ; each by itself")
    static void promise05_signs_eachByItself() {
        kinds("{{};{{}}}", 3, 3, 3, 3);
        kinds("a(b)(c(d))", 4, 4, 4, 4);
        String others = "!$&'*+,./:<=>?@[]^`|~";
        for (int i = 0; i < others.length(); i++) {
            Due.refused("a " + others.charAt(i), 2);
        }
    }

    // Grammar.

    @Due.Says("a word, a mark or none, and its ARGUMENTS")
    static void promise05_application_noMarkAndNoArguments() {
        kinds("a", 4);
        kinds("a %b", 4);
        kinds("a %b c", 4, 4);
        kinds("{a;b%c}", 3, 4, 4);
    }

    @Due.Says("a mark or none")
    static void promise05_application_markStandsBehindItsWordAlone() {
        Due.refused("a %b %c", 5);
        Due.refused("a 5 %c", 4);
        Due.refused("a b %c", 4);
        Due.refused("a (b) %c", 6);
        Due.refused("a {} %c", 5);
        Due.refused("%c", 0);
        Due.refused("{%c}", 1);
        Due.refused("5 %c", 2);
        Due.refused("a (%c)", 3);
    }

    @Due.Says("a word alone (an application without arguments), or ( application )")
    static void promise05_argument_wordAlone() {
        TextTerms x = Due.read("a b 5 (c 6 d) 7");
        int[] want = {4, 0, 0, 2, 0, 0, 0};
        for (int t = 0; t < want.length; t++) {
            Due.same("arguments(" + t + ")", x.arguments(t), want[t]);
        }
    }

    @Due.Says("or ( application )")
    static void promise05_argument_parenthesesHoldAnApplicationAlone() {
        String[] wrong = {")", "5)", "\"\")", "0x)", "{})", "(b))", "%m)", ";", "}"};
        for (String inside : wrong) {
            Due.refused("a (" + inside, 3);
        }
        kinds("a (b)", 4, 4);
        kinds("a (b%m 5 {})", 4, 4, 0, 3);
        Due.refused("a (b;", 4);
        Due.refused("a (b}", 4);
        Due.refused("{a (b}", 5);
    }

    @Due.Says("or ( application )")
    static void promise05_argument_closedOnlyWhatIsOpen() {
        Due.refused("a )", 2);
        Due.refused("a b)", 3);
        Due.refused("a (b))", 5);
        Due.refused("a {b)}", 4);
        Due.refused("a ({b)}", 3);
        Due.refused("a (b {c)})", 7);
        Due.refused(")", 0);
        Due.refused("5)", 1);
    }

    @Due.Says("An ITEM is a number, a string, bytes, a sequence, or an application")
    static void promise05_item_parenthesesAreNone() {
        Due.refused("(a)", 0);
        Due.refused("{(a)}", 1);
        Due.refused("{a;(b)}", 3);
        Due.refused("{} (a)", 3);
    }

    @Due.Says("An ITEM is a number, a string, bytes, a sequence, or an application")
    static void promise05_item_onlyAnApplicationHasArguments() {
        String[] others = {"5", "\"\"", "0x", "{}"};
        for (String item : others) {
            for (String behind : EACH_KIND) {
                Due.refused(item + " " + behind, item.length() + 1);
                Due.refused("{" + item + " " + behind + "}", item.length() + 2);
            }
        }
    }

    @Due.Says("A sequence is { and items")
    static void promise05_sequence_empty() {
        kinds("{}", 3);
        kinds("{ # \n }", 3);
        kinds("a{}{}", 4, 3, 3);
    }

    @Due.Says("with ; between them")
    static void promise05_sequence_oneSemicolonBetweenItems() {
        kinds("{1;2}", 3, 0, 0);
        Due.refused("{1 2}", 3);
        Due.refused("{{}{}}", 3);
        Due.refused("{1;;2}", 3);
        Due.refused("{;1}", 1);
        kinds("{a b;c d}", 3, 4, 4, 4, 4);
    }

    @Due.Says("perhaps one more behind the last")
    static void promise05_sequence_oneMoreSemicolonAtMost() {
        kinds("{1;}", 3, 0);
        kinds("{a b;}", 3, 4, 4);
        kinds("{1;2;}", 3, 0, 0);
        Due.refused("{1;;}", 3);
        Due.refused("{;}", 1);
        Due.refused("{ ; }", 2);
    }

    @Due.Says("and }")
    static void promise05_sequence_closedOnlyWhatIsOpen() {
        Due.refused("}", 0);
        Due.refused("a}", 1);
        Due.refused("{}}", 2);
        Due.refused("a {b}}", 5);
        Due.refused("5}", 1);
    }

    @Due.Says("A text must be one item.")
    static void promise05_text_noItem() {
        Due.refused("", 0);
        Due.refused(" ", 1);
        Due.refused("# a", 3);
        Due.refused(";", 0);
    }

    @Due.Says("A text must be one item.")
    static void promise05_text_twoItems() {
        Due.refused("1 2", 2);
        Due.refused("{}{}", 2);
        Due.refused("1;2", 1);
        Due.refused("a;b", 1);
        Due.refused("a;", 1);
        Due.refused("{};", 2);
        Due.refused("\"\"\"\"", 2);
    }

    @Due.Says("A text must be one item.")
    static void promise05_text_oneItemOfEachKind() {
        for (int kind = 0; kind < EACH_KIND.length; kind++) {
            kinds(EACH_KIND[kind], kind);
        }
    }

    @Due.Says("Terms are NUMBERED as they begin (an application at its word), from 0 on.")
    static void promise05_terms_numberedAsTheyBegin() {
        TextTerms x = Due.read("{ a ( b { 1 } ) ; 2 }");
        int[] begins = {0, 2, 6, 8, 10, 18};
        Due.same("count()", x.count(), begins.length);
        for (int t = 0; t < begins.length; t++) {
            Due.same("begins(" + t + ")", x.begins(t), begins[t]);
        }
    }

    // Places of refusal.

    @Due.Says("where the first token begins that is none")
    static void promise05_refused_whereTheFirstTokenIsNone() {
        Due.refused("@", 0);
        Due.refused(" \n @", 3);
        Due.refused("a @ !", 2);
        Due.refused("{1;0x1;\"}", 3);
        Due.refused("{1;\u0000}", 3);
        Due.refused("{1;\u00ff}", 3);
    }

    @Due.Says("or can't stand there")
    static void promise05_refused_whereTheFirstTokenCanNotStand() {
        Due.refused("1 2 @", 2);
        Due.refused("{1 2 @}", 3);
        Due.refused("a ) \"", 2);
        Due.refused("a %b %c %", 5);
        Due.refused("5 " + LIMIT, 2);
    }

    @Due.Says("with which a term begins that is the 4097th")
    static void promise05_refused_the4097thOfEachKind() {
        String most = "a" + " b".repeat(4095);
        count(most, 4096);
        for (String kind : EACH_KIND) {
            count("a" + " b".repeat(4094) + " " + kind, 4096);
            Due.refused(most + " " + kind, 8192);
        }
    }

    @Due.Says("with which a term begins that is the 4097th")
    static void promise05_refused_the4097thAtItsWord() {
        String most = "a" + " b".repeat(4095);
        Due.refused(most + " ( c)", 8194);
        count("a" + " b".repeat(4094) + " ( c)", 4096);
    }

    @Due.Says("with which a term begins that is the 4097th")
    static void promise05_refused_the4097thItem() {
        String most = "{" + "1;".repeat(4094) + "1";
        count(most + "}", 4096);
        count(most + ";}", 4096);
        for (String kind : EACH_KIND) {
            Due.refused(most + ";" + kind + "}", 8191);
        }
    }

    @Due.Says("with which a term begins that is the 4097th")
    static void promise05_refused_signsBehindThe4096thStand() {
        count("{" + "1;".repeat(4094) + "{ } ; } # 5", 4096);
        Due.refused("{" + "1;".repeat(4095), 8191);
        Due.refused("{" + "1;".repeat(4095) + "@", 8191);
    }

    @Due.Says("or stands in 60 others")
    static void promise05_refused_in60Sequences() {
        for (String kind : EACH_KIND) {
            count("{".repeat(59) + kind + "}".repeat(59), 60);
            Due.refused("{".repeat(60) + kind + "}".repeat(60), 60);
        }
        count("{".repeat(60) + "}".repeat(60), 60);
        Due.refused("{".repeat(61) + "}".repeat(61), 60);
    }

    @Due.Says("or stands in 60 others")
    static void promise05_refused_in60Applications() {
        String in59 = "a(".repeat(58) + "a ";
        String in60 = "a(".repeat(59) + "a ";
        for (String kind : EACH_KIND) {
            count(in59 + kind + ")".repeat(58), 60);
            Due.refused(in60 + kind + ")".repeat(59), in60.length());
        }
        count(in60 + ")".repeat(59), 60);
    }

    @Due.Says("or stands in 60 others")
    static void promise05_refused_in60AtTheWordInParentheses() {
        String in60 = "a(".repeat(59) + "a ";
        Due.refused(in60 + "( b)" + ")".repeat(59), in60.length() + 2);
        Due.refused(in60 + "()" + ")".repeat(59), in60.length() + 1);
    }

    @Due.Says("or stands in 60 others")
    static void promise05_refused_in60OfBothKinds() {
        count("{a ".repeat(29) + "{5}" + "}".repeat(29), 60);
        Due.refused("{a ".repeat(30) + "5" + "}".repeat(30), 90);
        Due.refused("a (b {".repeat(20) + "5", 120);
    }

    @Due.Says("or stands in 60 others")
    static void promise05_refused_notForThoseThatAreClosed() {
        String closed = "{".repeat(59) + "}".repeat(59);
        count("{" + closed + ";" + closed + ";5}", 120);
        count("{" + "a(b(c));".repeat(100) + "}", 301);
        count("{" + "a b c d;".repeat(100) + "}", 401);
    }

    @Due.Says("or is a number of 2^1024 or above")
    static void promise05_refused_numberOf2To1024OrAbove() {
        count(BELOW, 1);
        Due.refused(LIMIT, 0);
        Due.refused(ABOVE, 0);
        Due.refused("a " + LIMIT + " b", 2);
        Due.refused("{5;" + ABOVE + "}", 3);
        Due.refused("00" + LIMIT, 0);
        Due.refused("9".repeat(309), 0);
        Due.refused("2" + "0".repeat(308), 0);
        Due.refused("1" + "0".repeat(309), 0);
        Due.refused("1" + "0".repeat(10000), 0);
        count("9".repeat(308), 1);
        count("1" + "0".repeat(308), 1);
    }

    @Due.Says("or -2^1024 or below")
    static void promise05_refused_numberOfMinus2To1024OrBelow() {
        count("-" + BELOW, 1);
        Due.refused("-" + LIMIT, 0);
        Due.refused("-" + ABOVE, 0);
        Due.refused("a -" + LIMIT + " b", 2);
        Due.refused("-00" + LIMIT, 0);
        Due.refused("-" + "9".repeat(309), 0);
        Due.refused("-2" + "0".repeat(308), 0);
        Due.refused("-1" + "0".repeat(10000), 0);
        count("-" + "9".repeat(308), 1);
    }

    @Due.Says("2^1024 or above")
    static void promise05_refused_everyDigitOfTheLimitCounts() {
        for (int i = 0; i < LIMIT.length(); i++) {
            BigInteger unit = BigInteger.TEN.pow(LIMIT.length() - 1 - i);
            char digit = LIMIT.charAt(i);
            if (digit > '0') {
                count(TOO_LARGE.subtract(unit).toString(), 1);
            }
            if (digit < '9') {
                answers(TOO_LARGE.add(unit).toString(), 0);
            }
        }
    }

    @Due.Says("a number of 2^1024 or above")
    static void promise05_refused_onlyNumbersAreTooLarge() {
        kinds("\"" + LIMIT + "\"", 1);
        kinds("0x" + "ff".repeat(129), 2);
        kinds("a" + LIMIT, 4);
        kinds("a # " + LIMIT, 4);
    }

    @Due.Says("at its end, if it ends too early")
    static void promise05_refused_atItsEndIfItEndsTooEarly() {
        String[] early = {"", " ", "{", "{1", "{1;", "{a", "{a b", "{{}", "{a {}", "a (", "a (b",
            "a (b c", "a (b %c", "a (b (c)", "a {", "a (b {c}", "{a (b)"};
        for (String text : early) {
            Due.refused(text, text.length());
            Due.refused(text + " ", text.length() + 1);
            Due.refused(text + " \n#x", text.length() + 4);
            Due.refused(text + " #}\n ", text.length() + 5);
        }
    }

    @Due.Says("at its end, if it ends too early")
    static void promise05_refused_atTheEndThatEndSets() {
        TextTerms x = Due.fed("{a;\"bc\";0x12;%m}");
        int[] want = {0, 1, 2, 3, 3, 3, 3, 7, 8, 9, 10, 8, 12, 13, 13, 13, 13};
        for (int n = 16; n >= 0; n--) {
            x.end(n);
            Due.same("read() behind end(" + n + ")", x.read(), want[n]);
        }
    }

    // Promise 5 itself.

    @Due.Says("The bytes that came in are read as a text, and stay.")
    static void promise05_bytesStayWhenTheTextIsRead() {
        TextTerms x = Due.read("{a;5}");
        Due.same("end(5)", x.end(5), 5);
        Due.same("read() again", x.read(), -1);
        Due.same("count()", x.count(), 3);
        for (int i = 0; i < 5; i++) {
            Due.same("byte " + i, x.change(i, 32), "{a;5}".charAt(i));
        }
    }

    @Due.Says("The bytes that came in are read as a text, and stay.")
    static void promise05_bytesStayWhenTheTextIsRefused() {
        TextTerms x = Due.fed("{a;@}");
        Due.same("read()", x.read(), 3);
        Due.same("read() again", x.read(), 3);
        Due.same("end(5)", x.end(5), 5);
        Due.same("change(3, 53)", x.change(3, '5'), '@');
        Due.same("read() then", x.read(), -1);
        Due.same("count() then", x.count(), 3);
    }

    @Due.Says("The bytes that came in are read as a text")
    static void promise05_bytesThatWereCutOffAreNotRead() {
        TextTerms x = Due.fed("12345 @");
        x.end(3);
        Due.same("read()", x.read(), -1);
        Due.same("ends(0)", x.ends(0), 3);
        x.end(0);
        Due.same("read() of none", x.read(), 0);
        Due.noTerm(x, 0);
    }

    @Due.Says("The bytes that came in are read as a text")
    static void promise05_asManyBytesAsThereCanBe() {
        TextTerms x = new TextTerms();
        x.feed(0, 0, 0, 0, 0);
        x.end(4);
        for (int i = 0; i < 819; i++) {
            x.feed(0x20202020, 0x20202020, 0x20202020, 0x20202020, 0x20202020);
        }
        String word = "abcd";
        for (int i = 0; i < 4; i++) {
            x.change(i, ' ');
            x.change(16380 + i, word.charAt(i));
        }
        Due.same("read()", x.read(), -1);
        Due.same("begins(0)", x.begins(0), 16380);
        Due.same("ends(0)", x.ends(0), 16384);
        Due.same("part(0, 3)", x.part(0, 3), 'd');
        x.change(16383, '{');
        Due.same("read() of one that ends too early", x.read(), 16384);
        x.change(16383, '"');
        Due.same("read() of one whose last byte is no token", x.read(), 16383);
    }

    @Due.Says("and then there are no terms at hand")
    static void promise05_refusedLeavesNoTermsAtHand() {
        TextTerms x = Due.read("{a;5}");
        x.change(4, ' ');
        Due.same("count() before it is read", x.count(), 3);
        Due.same("read()", x.read(), 5);
        Due.same("count()", x.count(), 0);
        for (int t = 0; t < 4; t++) {
            Due.noTerm(x, t);
        }
    }

    @Due.Says("Answers NONE; or the place at which it is refused")
    static void promise05_refusedLeavesNothingToTheNextText() {
        String[] refused = {"{".repeat(60), "a(".repeat(60), "a(b(c", "{a", "a %b %c", "1 2", "\"",
            "{" + "1;".repeat(4096)};
        String deepest = "{".repeat(60) + "}".repeat(60);
        for (String text : refused) {
            TextTerms x = Due.fed(text);
            Due.holds("it is refused", x.read() != -1);
            x.end(0);
            Due.feed(x, Due.bytes(deepest), 0);
            Due.same("read() behind <" + text + ">", x.read(), -1);
            Due.same("count() behind <" + text + ">", x.count(), 60);
            Due.same("size(0) behind <" + text + ">", x.size(0), 60);
        }
    }

    @Due.Says("THE TERMS AT HAND are those of the text that was read last")
    static void promise05_termsAtHandAreOfTheLastText() {
        TextTerms x = Due.read("a %b {1;2} \"c\"");
        x.end(0);
        Due.feed(x, Due.bytes("{ d }"), 0);
        Due.same("read()", x.read(), -1);
        Due.same("count()", x.count(), 2);
        Due.same("kind(0)", x.kind(0), 3);
        Due.same("arguments(0)", x.arguments(0), 1);
        Due.same("size(0)", x.size(0), 2);
        Due.same("mark(0, 0)", x.mark(0, 0), -1);
        Due.same("ends(0)", x.ends(0), 5);
        Due.same("part(1, 0)", x.part(1, 0), 'd');
        Due.same("arguments(1)", x.arguments(1), 0);
        Due.noTerm(x, 2);
        Due.noTerm(x, 4);
    }

    @Due.Says("else none; none at first")
    static void promise05_noTermsAtHandAtFirst() {
        TextTerms x = Due.fed("{a;5}");
        Due.same("count()", x.count(), 0);
        Due.noTerm(x, 0);
    }

    @Due.Says("An object is used for at most 512 calls after it has been made")
    static void promise05_holdsUpToThe512thCall() {
        TextTerms x = new TextTerms();
        for (int call = 1; call <= 500; call++) {
            x.feed(0x61203520, 0x61203520, 0x61203520, 0x61203520, 0x61203520);
        }
        Due.same("end, call 501", x.end(8192), 10000);
        Due.same("read, call 502", x.read(), -1);
        Due.same("count, call 503", x.count(), 4096);
        Due.same("argument, call 504", x.argument(0, 4094), 4095);
        Due.same("size, call 505", x.size(0), 4096);
        Due.same("end, call 506", x.end(8191), 8192);
        Due.same("read, call 507", x.read(), -1);
        Due.same("change, call 508", x.change(8190, '@'), '5');
        Due.same("read, call 509", x.read(), 8190);
        Due.same("count, call 510", x.count(), 0);
        Due.same("change, call 511", x.change(8190, '5'), '@');
        Due.same("read, call 512", x.read(), -1);
    }
}
