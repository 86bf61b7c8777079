/** Promise 5: which texts are read, and at which place others are refused. */
public final class ReadTest {
    // 2 to the 1024th.
    private static final String LIMIT = java.math.BigInteger.ONE.shiftLeft(1024).toString();

    public static void main(String[] args) {
        blanks();
        numbers();
        bytes();
        strings();
        words();
        marks();
        noTokens();
        sequences();
        applications();
        parentheses();
        oneItem();
        endsTooEarly();
        tooDeep();
        tooMany();
        tooLarge();
        readAgain();
        Due.close();
    }

    private static void terms(String text, int count) {
        TextTerms x = Due.read(text);
        Due.same("count of <" + text + ">", x.count(), count);
    }

    private static void blanks() {
        Due.refused("", 0);
        Due.refused(" ", 1);
        Due.refused(" \t\n\r", 4);
        Due.refused("# x", 3);
        Due.refused("#", 1);
        Due.refused("# 5\n", 4);
        terms("# 6\r7 # 8\n5", 1);
        terms("\t\r\n 5 \t\r\n ", 1);
        terms("5#", 1);
        terms("a#b\nc", 2);
        terms("#\u0000\u00ff\"\\{\n5", 1);
        terms("##\n#\n5##", 1);
        Due.refused("\u000b5", 0);
        Due.refused("\f5", 0);
        Due.refused("5\u0000", 1);
        Due.refused("5\u00a0", 1);
    }

    private static void numbers() {
        String[] good = {"0", "-0", "7", "-7", "007", "-007", "00", "1234567890"};
        for (String text : good) {
            terms(text, 1);
        }
        Due.refused("-", 0);
        Due.refused("--5", 0);
        Due.refused("- 5", 0);
        Due.refused("-a", 0);
        Due.refused("+5", 0);
        Due.refused("5-", 1);
        Due.refused("5.0", 1);
        Due.refused("5 6", 2);
        Due.refused("5a", 1);
        terms("a 5-6-7b8", 5);
    }

    private static void bytes() {
        terms("0x", 1);
        terms("0x00", 1);
        terms("0x0123456789abcdefABCDEF", 1);
        Due.refused("0x1", 0);
        Due.refused("0x123", 0);
        Due.refused("0xabz", 4);
        Due.refused("0xaz", 0);
        Due.refused("0X12", 1);
        Due.refused("a 0x0x", 2);
        terms("a 0xg", 3);
        terms("a 00x12", 3);
        terms("a -0x12", 3);
        terms("a 10x12", 3);
        terms("a 0x_", 3);
        terms("a 0x-0", 3);
        terms("a 0X12", 3);
    }

    private static void strings() {
        terms("\"\"", 1);
        terms("\" !#[]^~\"", 1);
        terms("\"\\\\\\\"\\n\"", 1);
        terms("a\"\"\"\"", 3);
        terms("\"#\"", 1);
        Due.refused("\"", 0);
        Due.refused("5\"", 1);
        Due.refused(" \"abc", 1);
        Due.refused("\"a\\\"", 0);
        Due.refused("\"a\\", 0);
        Due.refused("\"\\t\"", 0);
        Due.refused("\"\\r\"", 0);
        Due.refused("\"\\N\"", 0);
        Due.refused("\"\\ \"", 0);
        Due.refused("\"a\nb\"", 0);
        Due.refused("\"\t\"", 0);
        Due.refused("\"\u001f\"", 0);
        Due.refused("\"\u007f\"", 0);
        Due.refused("\"\u0080\"", 0);
        Due.refused("\"\u00ff\"", 0);
        Due.refused("'a'", 0);
        Due.refused("\"a\"\"b\"", 3);
    }

    private static void words() {
        terms("a", 1);
        terms("_", 1);
        terms("Z_9z", 1);
        terms("x0", 1);
        terms("AZaz_09", 1);
        Due.refused("9a", 1);
        Due.refused("a-", 1);
        Due.refused("a.b", 1);
        Due.refused("@a", 0);
        Due.refused("a@", 1);
        Due.refused("[", 0);
        Due.refused("`", 0);
        Due.refused("a\u00e4", 1);
    }

    private static void marks() {
        String many = "b".repeat(31);
        terms("a%b", 1);
        terms("a %b", 1);
        terms("a %b c", 2);
        terms("a%b(c%d)", 2);
        terms("a %" + many, 1);
        terms("a %" + many + "b", 2);
        terms("a %" + many + "0x1f", 2);
        terms("a %" + many + "1_", 3);
        terms("a %0", 1);
        terms("a %_", 1);
        Due.refused("a %" + many + "%b", 34);
        Due.refused("a%", 1);
        Due.refused("a %%b", 2);
        Due.refused("a % b", 2);
        Due.refused("a %b %c", 5);
        Due.refused("a 1 %c", 4);
        Due.refused("a b%c", 3);
        Due.refused("a {} %c", 5);
        Due.refused("a (b) %c", 6);
        Due.refused("%b", 0);
        Due.refused("5 %b", 2);
        Due.refused("{%b}", 1);
        Due.refused("a (%b)", 3);
        Due.refused("{a} %b", 4);
    }

    private static void noTokens() {
        for (int c = 0; c < 256; c++) {
            boolean blank = c == 32 || c == 9 || c == 10 || c == 13 || c == '#';
            boolean item = c >= '0' && c <= '9' || c == '_'
                || c >= 'a' && c <= 'z' || c >= 'A' && c <= 'Z';
            TextTerms x = Due.fed(String.valueOf((char) c));
            int place = blank || c == '{' ? 1 : item ? -1 : 0;
            Due.same("read of character " + c, x.read(), place);
        }
    }

    private static void sequences() {
        terms("{}", 1);
        terms("{ }", 1);
        terms("{1}", 2);
        terms("{1;}", 2);
        terms("{1;2}", 3);
        terms("{1;2;}", 3);
        terms("{a b;c}", 4);
        terms("{{};{{}};{}}", 5);
        terms("{\"\";0x;a%b c;{};1}", 7);
        Due.refused("{;}", 1);
        Due.refused("{1;;}", 3);
        Due.refused("{ 1 ; ; 2 }", 6);
        Due.refused("{1 2}", 3);
        Due.refused("{1 a}", 3);
        Due.refused("{1 {}}", 3);
        Due.refused("{{} {}}", 4);
        Due.refused("{(a)}", 1);
        Due.refused("{1)}", 2);
        Due.refused("{a)}", 2);
        Due.refused("}", 0);
        Due.refused(";", 0);
        Due.refused("{}}", 2);
        Due.refused("{1;@}", 3);
    }

    private static void applications() {
        terms("a b c d", 4);
        terms("a 1 \"\" 0x {} b (c)", 7);
        terms("a{}{}", 3);
        terms("a{b c;d}e", 6);
        Due.refused("a;", 1);
        Due.refused("a }", 2);
        Due.refused("a b;", 3);
        Due.refused("a 1 )", 4);
    }

    private static void parentheses() {
        terms("a (b)", 2);
        terms("a(b)(c)d", 4);
        terms("a (b (c (d 1)) 2) 3", 7);
        terms("a (b%x {c;d})", 5);
        terms("a %b(c)", 2);
        Due.refused("(a)", 0);
        Due.refused("(", 0);
        Due.refused(")", 0);
        Due.refused("a ()", 3);
        Due.refused("a (5)", 3);
        Due.refused("a (\"\")", 3);
        Due.refused("a (0x)", 3);
        Due.refused("a ({})", 3);
        Due.refused("a ((b))", 3);
        Due.refused("a (;", 3);
        Due.refused("a (}", 3);
        Due.refused("a (b;)", 4);
        Due.refused("a (b})", 4);
        Due.refused("{a (b;c)}", 5);
        Due.refused("{a (b}", 5);
        Due.refused("a (b))", 5);
        Due.refused("a {b)}", 4);
        Due.refused("5 (a)", 2);
        Due.refused("{} (a)", 3);
    }

    private static void oneItem() {
        Due.refused("5 5", 2);
        Due.refused("\"\" a", 3);
        Due.refused("{} a", 3);
        Due.refused("{}{}", 2);
        Due.refused("5;", 1);
        Due.refused("{};", 2);
        Due.refused("5@", 1);
        Due.refused("5 }", 2);
        Due.refused("5 )", 2);
    }

    private static void endsTooEarly() {
        Due.refused("{", 1);
        Due.refused("{ ", 2);
        Due.refused("{1", 2);
        Due.refused("{1;", 3);
        Due.refused("{a", 2);
        Due.refused("{a b ", 5);
        Due.refused("{{}", 3);
        Due.refused("a (", 3);
        Due.refused("a (b", 4);
        Due.refused("a (b c", 6);
        Due.refused("a (b%c", 6);
        Due.refused("a (b (c)", 8);
        Due.refused("a {", 3);
        Due.refused("a { # }", 7);
        Due.refused("a ( # b)\n ", 10);
    }

    private static void tooDeep() {
        terms("{".repeat(60) + "}".repeat(60), 60);
        Due.refused("{".repeat(61) + "}".repeat(61), 60);
        terms("{".repeat(59) + "1" + "}".repeat(59), 60);
        Due.refused("{".repeat(60) + "1" + "}".repeat(60), 60);
        Due.refused("{".repeat(60) + " \"\"" + "}".repeat(60), 61);
        terms("{".repeat(58) + "a b" + "}".repeat(58), 60);
        terms("{".repeat(59) + "a" + "}".repeat(59), 60);
        Due.refused("{".repeat(59) + "a b" + "}".repeat(59), 61);
        Due.refused("{".repeat(60) + "a" + "}".repeat(60), 60);
        terms("a(".repeat(59) + "a" + ")".repeat(59), 60);
        Due.refused("a(".repeat(60) + "a" + ")".repeat(60), 120);
        Due.refused("a(".repeat(60) + "5", 120);
        Due.refused("a(".repeat(60), 120);
        terms("a(".repeat(58) + "a b{}1" + ")".repeat(58), 62);
        Due.refused("a(".repeat(59) + "a b" + ")".repeat(59), 120);
        Due.refused("a(".repeat(59) + "a 0x" + ")".repeat(59), 120);
        terms("{{a;};{a;};{a;}}", 7);
        String wide = "{".repeat(58) + "a b;".repeat(70) + "}".repeat(58);
        terms(wide, 58 + 140);
        terms("{" + "a (b (c));".repeat(70) + "}", 211);
    }

    private static void tooMany() {
        terms("a" + "{}".repeat(4095), 4096);
        Due.refused("a" + "{}".repeat(4096), 1 + 2 * 4095);
        terms("{" + "1;".repeat(4095) + "}", 4096);
        Due.refused("{" + "1;".repeat(4096) + "}", 1 + 2 * 4095);
        Due.refused("{" + "1;".repeat(4095) + "a}", 1 + 2 * 4095);
        Due.refused("{" + "1;".repeat(4095) + ";a}", 1 + 2 * 4095);
        terms("a" + " b".repeat(4095), 4096);
        Due.refused("a" + " b".repeat(4096), 2 * 4096);
        Due.refused("a" + " b".repeat(4095) + " (c)", 2 * 4096 + 1);
        Due.refused("a" + " b".repeat(4095) + " \"\"", 2 * 4096);
        Due.refused("a" + " b".repeat(4095) + " 0x", 2 * 4096);
    }

    private static void tooLarge() {
        String below = LIMIT.substring(0, LIMIT.length() - 1) + "5";
        terms(below, 1);
        terms("-" + below, 1);
        terms("0000" + below, 1);
        terms("9".repeat(308), 1);
        terms("-" + "0".repeat(400), 1);
        Due.refused(LIMIT, 0);
        Due.refused("-" + LIMIT, 0);
        Due.refused("-00" + LIMIT, 0);
        Due.refused("a " + LIMIT, 2);
        Due.refused("1" + "0".repeat(309), 0);
        Due.refused("2" + "0".repeat(308), 0);
        terms("1" + "0".repeat(308), 1);
        Due.refused("{5;-" + "9".repeat(310) + "}", 3);
        Due.refused("5 " + LIMIT, 2);
        // Bytes and strings have no such limit.
        terms("0x" + "ff".repeat(400), 1);
        terms("\"" + LIMIT + "\"", 1);
        terms("a" + LIMIT, 1);
    }

    private static void readAgain() {
        TextTerms x = Due.fed("{a;b}");
        Due.same("read", x.read(), -1);
        Due.same("read again", x.read(), -1);
        Due.same("the bytes stay", x.end(5), 5);
        Due.same("count", x.count(), 3);
        Due.same("arguments", x.arguments(0), 2);
        Due.same("size", x.size(0), 3);
        x.change(1, '@');
        Due.same("refused", x.read(), 1);
        Due.same("the bytes stay when it is refused", x.end(5), 5);
        Due.same("no terms", x.count(), 0);
        Due.same("no term 0", x.kind(0), -1);
        x.change(1, '1');
        Due.same("read then", x.read(), -1);
        Due.same("count then", x.count(), 3);
        Due.same("kind then", x.kind(1), 0);
        x.end(0);
        Due.feed(x, Due.bytes("a %b {c}"), 0);
        Due.same("another", x.read(), -1);
        Due.same("mark", x.mark(0, 0), 'b');
        x.end(0);
        Due.feed(x, Due.bytes("a"), 0);
        Due.same("one without a mark", x.read(), -1);
        Due.same("no mark of before", x.mark(0, 0), -1);
        Due.same("no arguments of before", x.arguments(0), 0);
        Due.same("no size of before", x.size(0), 1);
        x.end(0);
        Due.same("nothing to read", x.read(), 0);
        Due.same("no terms then", x.count(), 0);
    }
}
