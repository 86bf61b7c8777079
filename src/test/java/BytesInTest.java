/** Promises 1 to 4: a new object, feed, end, change. */
public final class BytesInTest {
    public static void main(String[] args) {
        newObject();
        feedOrder();
        feedLimit();
        end();
        endThrows();
        change();
        changeNone();
        termsStayAtHand();
        Due.close();
    }

    private static void newObject() {
        TextTerms x = new TextTerms();
        Due.same("NONE", TextTerms.NONE, -1);
        Due.same("new: count", x.count(), 0);
        Due.same("new: end(0)", x.end(0), 0);
        Due.same("new: change(0, 1)", x.change(0, 1), -1);
        int[] wrong = {0, 1, -1, 4095, 4096, 16384, Integer.MAX_VALUE, Integer.MIN_VALUE};
        for (int t : wrong) {
            Due.noTerm(x, t);
        }
        Due.same("new: read", x.read(), 0);
    }

    private static void feedOrder() {
        TextTerms x = new TextTerms();
        x.feed(0x00010203, 0x04050607, 0x08090A0B, 0x0C0D0E0F, 0x10111213);
        x.feed(0xFFFEFDFC, 0x80818283, -1, 0, 0x7F000001);
        int[] want = {0, 1, 2, 3, 4, 5, 6, 7, 8, 9, 10, 11, 12, 13, 14, 15, 16, 17, 18, 19,
            255, 254, 253, 252, 128, 129, 130, 131, 255, 255, 255, 255, 0, 0, 0, 0, 127, 0, 0, 1};
        for (int i = 0; i < want.length; i++) {
            Due.same("byte " + i + " that was fed", x.change(i, 0), want[i]);
        }
        Due.same("end(40)", x.end(40), 40);
    }

    /** More calls than an object is promised for, yet no fewer could reach the limit. */
    private static void feedLimit() {
        TextTerms x = new TextTerms();
        for (int i = 0; i < 819; i++) {
            x.feed(i, 0, 0, 0, 7);
        }
        Due.holds("16400 bytes are too many", Due.feedThrows(x));
        Due.same("what throws changes nothing", x.end(16380), 16380);
        Due.same("the last byte stays", x.change(16379, 7), 7);
        x.end(16365);
        Due.holds("16385 bytes are too many", Due.feedThrows(x));
        x.end(16364);
        Due.holds("16384 bytes are not too many", !Due.feedThrows(x));
        Due.same("full", x.end(16384), 16384);
        Due.holds("full: no more", Due.feedThrows(x));
        Due.same("full: first byte, first feed", x.change(3, 1), 0);
        Due.same("full: last byte", x.change(16383, 1), 5);
        Due.same("full: behind it", x.change(16384, 1), -1);
        Due.same("full: read", x.read(), 0);
    }

    private static void end() {
        TextTerms x = new TextTerms();
        x.feed(0x61626364, 0x65666768, 0x696A6B6C, 0x6D6E6F70, 0x71727374);
        Due.same("end of as many", x.end(20), 20);
        Due.same("end of fewer", x.end(3), 20);
        Due.same("again", x.end(3), 3);
        Due.same("what was cut off is gone", x.change(3, 65), -1);
        x.feed(0x41424344, 0, 0, 0, 0);
        Due.same("new bytes come behind the first 3", x.change(3, 65), 0x41);
        Due.same("the first ones stay", x.change(2, 65), 0x63);
        Due.same("end(0)", x.end(0), 23);
        Due.same("none", x.end(0), 0);
    }

    private static void endThrows() {
        TextTerms x = new TextTerms();
        Due.holds("new: end(1) throws", Due.endThrows(x, 1));
        Due.holds("new: end(-1) throws", Due.endThrows(x, -1));
        x.feed(1, 2, 3, 4, 5);
        Due.holds("end(21) throws", Due.endThrows(x, 21));
        Due.holds("end(-1) throws", Due.endThrows(x, -1));
        Due.holds("end of the largest throws", Due.endThrows(x, Integer.MAX_VALUE));
        Due.holds("end of the smallest throws", Due.endThrows(x, Integer.MIN_VALUE));
        Due.same("nothing was changed", x.end(5), 20);
        Due.holds("end(6) throws then", Due.endThrows(x, 6));
    }

    private static void change() {
        TextTerms x = Due.fed("ab");
        Due.same("change(0)", x.change(0, 'c'), 'a');
        Due.same("change(0) again", x.change(0, 255), 'c');
        Due.same("change of 255", x.change(0, 0), 255);
        Due.same("change of 0", x.change(0, 'D'), 0);
        Due.same("change(1)", x.change(1, 'U'), 'b');
        Due.same("read", x.read(), -1);
        Due.same("first letter", x.part(0, 0), 'D');
        Due.same("second letter", x.part(0, 1), 'U');
        Due.same("it adds none", x.end(2), 2);
    }

    private static void changeNone() {
        TextTerms x = Due.fed("ab");
        int[] places = {2, 3, -1, 19, 16384, Integer.MAX_VALUE, Integer.MIN_VALUE};
        for (int i : places) {
            Due.same("change(" + i + ", 65)", x.change(i, 65), -1);
        }
        int[] values = {256, -1, Integer.MAX_VALUE, Integer.MIN_VALUE, 65536 + 65};
        for (int b : values) {
            Due.same("change(0, " + b + ")", x.change(0, b), -1);
        }
        Due.same("byte 0 is as it was", x.change(0, 0), 'a');
        Due.same("byte 1 is as it was", x.change(1, 0), 'b');
    }

    /** The terms are those of the text as it was when it was read. */
    private static void termsStayAtHand() {
        TextTerms x = Due.read("pair %ab \"x\\ny\" 0x0f -12");
        int before = x.end(24);
        Due.same("all bytes", before, 24);
        for (int i = 0; i < before; i++) {
            x.change(i, '0');
        }
        x.end(0);
        x.feed(0, 0, 0, 0, 0);
        Due.same("count", x.count(), 4);
        Due.same("word", x.word(0), 18);
        Due.same("letter", x.part(0, 3), 'r');
        Due.same("mark", x.mark(0, 1), 'b');
        Due.same("string", x.length(1), 3);
        Due.same("line end", x.part(1, 1), 10);
        Due.same("bytes", x.part(2, 0), 15);
        Due.same("number", x.length(3), 4);
        Due.holds("below 0", x.isNegative(3));
        Due.same("refused now", x.read(), 0);
        Due.noTerm(x, 0);
    }
}
