/** Promises 1 to 4, sentence by sentence: the boundary cases of what comes in. */
public final class BytesInBoundaryTest {
    // The letters a to t: one word of twenty.
    private static final int[] LETTERS =
        {0x61626364, 0x65666768, 0x696A6B6C, 0x6D6E6F70, 0x71727374};

    public static void main(String[] args) {
        Due.runAll(BytesInBoundaryTest.class);
    }

    private static TextTerms withLetters() {
        TextTerms x = new TextTerms();
        feedLetters(x);
        return x;
    }

    private static void feedLetters(TextTerms x) {
        x.feed(LETTERS[0], LETTERS[1], LETTERS[2], LETTERS[3], LETTERS[4]);
    }

    /** What byte i is; it stays what it was. */
    private static int look(TextTerms x, int i) {
        int was = x.change(i, 0);
        x.change(i, was);
        return was;
    }

    private static void lettersAt(TextTerms x, int from, int to) {
        for (int i = from; i < to; i++) {
            Due.same("byte " + i, look(x, i), 'a' + (i - from));
        }
    }

    /** An object with so many bytes; the limit of promise 2 is not reached within 512 calls. */
    private static TextTerms withBytes(int n) {
        TextTerms x = withLetters();
        x.end(n % 20);
        for (int i = 0; i < n / 20; i++) {
            feedLetters(x);
        }
        Due.same("so many bytes", x.end(n), n);
        return x;
    }

    @Due.Says("No bytes")
    static void promise01_newObjectHasNoBytes() {
        TextTerms x = new TextTerms();
        Due.same("change(0, 0)", x.change(0, 0), -1);
        Due.holds("end(1) throws", Due.endThrows(x, 1));
        Due.same("end(0)", x.end(0), 0);
        Due.same("read()", x.read(), 0);
    }

    @Due.Says("no terms")
    static void promise01_newObjectHasNoTerms() {
        TextTerms x = new TextTerms();
        Due.same("count()", x.count(), 0);
        Due.noTerm(x, 0);
        Due.noTerm(x, 1);
        for (int t : Due.NO_TERMS) {
            Due.noTerm(x, t);
        }
    }

    @Due.Says("A new object")
    static void promise01_newObjectKnowsNothingOfAnotherOne() {
        TextTerms other = Due.read("{a;b}");
        TextTerms x = new TextTerms();
        Due.same("end(0)", x.end(0), 0);
        Due.same("count()", x.count(), 0);
        Due.noTerm(x, 0);
        Due.same("end of the other one", other.end(5), 5);
        Due.same("count of the other one", other.count(), 3);
    }

    @Due.Says("NONE = -1")
    static void promise01_noneIsMinus1() {
        Due.same("NONE", TextTerms.NONE, -1);
    }

    @Due.Says("Twenty bytes come")
    static void promise02_twentyBytesComeAtOnce() {
        TextTerms x = withLetters();
        Due.same("end(20) behind one feed", x.end(20), 20);
        feedLetters(x);
        Due.same("end(40) behind two", x.end(40), 40);
        Due.same("change(40, 0)", x.change(40, 0), -1);
        lettersAt(x, 0, 20);
        lettersAt(x, 20, 40);
    }

    @Due.Says("behind those that came in")
    static void promise02_behindNoneAtAll() {
        TextTerms x = withLetters();
        x.end(0);
        feedLetters(x);
        lettersAt(x, 0, 20);
        Due.same("end(20)", x.end(20), 20);
    }

    @Due.Says("behind those that came in")
    static void promise02_behindThoseThatEndLeft() {
        TextTerms x = withLetters();
        x.end(3);
        feedLetters(x);
        lettersAt(x, 0, 3);
        lettersAt(x, 3, 23);
        Due.same("end(23)", x.end(23), 23);
    }

    @Due.Says("the highest byte of each int first")
    static void promise02_highestByteFirst() {
        TextTerms x = new TextTerms();
        x.feed(Integer.MIN_VALUE, Integer.MAX_VALUE, -1, 0, 0x01FE7F80);
        int[] want = {128, 0, 0, 0, 127, 255, 255, 255, 255, 255, 255, 255, 0, 0, 0, 0,
            1, 254, 127, 128};
        for (int i = 0; i < want.length; i++) {
            Due.same("byte " + i, x.change(i, 32), want[i]);
        }
    }

    @Due.Says("there would be more than 16384")
    static void promise02_oneMoreThan16384Throws() {
        TextTerms x = withBytes(16365);
        Due.holds("feed at 16365 throws", Due.feedThrows(x));
        x.end(16364);
        Due.holds("feed at 16364 does not", !Due.feedThrows(x));
    }

    @Due.Says("there would be more than 16384")
    static void promise02_just16384IsNotTooMany() {
        TextTerms x = withBytes(16364);
        feedLetters(x);
        Due.same("end(16384)", x.end(16384), 16384);
        lettersAt(x, 16364, 16384);
        Due.same("change(16384, 0)", x.change(16384, 0), -1);
    }

    @Due.Says("there would be more than 16384")
    static void promise02_fullThrowsEachTime() {
        TextTerms x = withBytes(16384);
        Due.holds("feed when it is full throws", Due.feedThrows(x));
        Due.holds("feed throws again", Due.feedThrows(x));
        x.end(0);
        Due.holds("feed behind end(0) does not", !Due.feedThrows(x));
    }

    @Due.Says("there would be more than 16384")
    static void promise02_neverThrowsWithin512Calls() {
        TextTerms x = new TextTerms();
        int thrown = 0;
        for (int call = 0; call < 511; call++) {
            thrown += Due.feedThrows(x) ? 1 : 0;
        }
        Due.same("feeds that throw", thrown, 0);
        Due.same("end as the 512th call", x.end(10220), 10220);
    }

    @Due.Says("A call that throws, or is refused, changes nothing.")
    static void promise02_throwingChangesNothing() {
        TextTerms x = withBytes(10);
        Due.same("read()", x.read(), -1);
        for (int i = 0; i < 818; i++) {
            feedLetters(x);
        }
        Due.holds("feed throws", Due.feedThrows(x));
        lettersAt(x, 16350, 16370);
        Due.same("change(16370, 0)", x.change(16370, 0), -1);
        Due.same("end(16370)", x.end(16370), 16370);
        Due.same("count()", x.count(), 1);
        Due.same("length(0)", x.length(0), 10);
    }

    @Due.Says("The bytes that came in are only the first n.")
    static void promise03_onlyTheFirstN() {
        TextTerms x = withLetters();
        x.end(5);
        lettersAt(x, 0, 5);
        Due.same("change(5, 0)", x.change(5, 0), -1);
        Due.same("read()", x.read(), -1);
        Due.same("length(0)", x.length(0), 5);
    }

    @Due.Says("The bytes that came in are only the first n.")
    static void promise03_nIs0() {
        TextTerms x = withLetters();
        Due.same("end(0)", x.end(0), 20);
        Due.same("change(0, 65)", x.change(0, 65), -1);
        Due.same("read()", x.read(), 0);
        Due.same("end(0) again", x.end(0), 0);
    }

    @Due.Says("The bytes that came in are only the first n.")
    static void promise03_nIsAllOfThem() {
        TextTerms x = withLetters();
        Due.same("end(20)", x.end(20), 20);
        lettersAt(x, 0, 20);
        Due.same("end(20) again", x.end(20), 20);
    }

    @Due.Says("The bytes that came in are only the first n.")
    static void promise03_nIsOneLessThanAll() {
        TextTerms x = withLetters();
        Due.same("end(19)", x.end(19), 20);
        lettersAt(x, 0, 19);
        Due.same("change(19, 65)", x.change(19, 65), -1);
    }

    @Due.Says("Answers how many there were.")
    static void promise03_answersHowManyThereWere() {
        TextTerms x = new TextTerms();
        Due.same("end(0) when new", x.end(0), 0);
        feedLetters(x);
        feedLetters(x);
        Due.same("end(21)", x.end(21), 40);
        Due.same("end(1)", x.end(1), 21);
        Due.same("end(0)", x.end(0), 1);
        Due.same("end(0) again", x.end(0), 0);
    }

    @Due.Says("there are not so many")
    static void promise03_notSoManyThrows() {
        TextTerms x = withLetters();
        int[] wrong = {21, 40, 16384, 16385, Integer.MAX_VALUE};
        for (int n : wrong) {
            Due.holds("end(" + n + ") throws", Due.endThrows(x, n));
        }
        Due.holds("end(20) does not", !Due.endThrows(x, 20));
    }

    @Due.Says("there are not so many")
    static void promise03_notSoManyThrowsWhenThereAreNone() {
        TextTerms x = new TextTerms();
        Due.holds("end(1) throws", Due.endThrows(x, 1));
        Due.holds("end(0) does not", !Due.endThrows(x, 0));
    }

    @Due.Says("there are not so many")
    static void promise03_whatWasCutOffDoesNotCome() {
        TextTerms x = withLetters();
        x.end(4);
        Due.holds("end(5) throws", Due.endThrows(x, 5));
        Due.holds("end(20) throws", Due.endThrows(x, 20));
        Due.same("end(4)", x.end(4), 4);
    }

    @Due.Says("n is below 0")
    static void promise03_below0Throws() {
        TextTerms x = withLetters();
        int[] wrong = {-1, -20, -16384, Integer.MIN_VALUE};
        for (int n : wrong) {
            Due.holds("end(" + n + ") throws", Due.endThrows(x, n));
        }
        Due.holds("end(-1) throws when new", Due.endThrows(new TextTerms(), -1));
    }

    @Due.Says("A call that throws, or is refused, changes nothing.")
    static void promise03_throwingChangesNothing() {
        TextTerms x = withLetters();
        x.read();
        Due.holds("end(21) throws", Due.endThrows(x, 21));
        Due.holds("end(-1) throws", Due.endThrows(x, -1));
        lettersAt(x, 0, 20);
        Due.same("count()", x.count(), 1);
        Due.same("length(0)", x.length(0), 20);
        Due.same("end(20)", x.end(20), 20);
    }

    @Due.Says("those of the text that was read last")
    static void promise03_termsStayAtHand() {
        TextTerms x = withLetters();
        x.read();
        x.end(0);
        Due.same("count()", x.count(), 1);
        Due.same("length(0)", x.length(0), 20);
        Due.same("part(0, 19)", x.part(0, 19), 't');
    }

    @Due.Says("becomes another one (0 .. 255)")
    static void promise04_everyByteFrom0To255() {
        TextTerms x = withLetters();
        int before = 'c';
        for (int b = 0; b < 256; b++) {
            Due.same("change(2, " + b + ")", x.change(2, b), before);
            before = b;
        }
        Due.same("change(2, 255)", x.change(2, 255), 255);
        Due.same("change(2, 0)", x.change(2, 0), 255);
        Due.same("change(2, 1)", x.change(2, 1), 0);
    }

    @Due.Says("One of the bytes that came in")
    static void promise04_firstAndLast() {
        TextTerms x = withLetters();
        Due.same("change(0, 65)", x.change(0, 'A'), 'a');
        Due.same("change(19, 84)", x.change(19, 'T'), 't');
        Due.same("read()", x.read(), -1);
        Due.same("part(0, 0)", x.part(0, 0), 'A');
        Due.same("part(0, 1)", x.part(0, 1), 'b');
        Due.same("part(0, 18)", x.part(0, 18), 's');
        Due.same("part(0, 19)", x.part(0, 19), 'T');
        Due.same("end(20)", x.end(20), 20);
    }

    @Due.Says("Answers what it was")
    static void promise04_answersWhatItWas() {
        TextTerms x = withLetters();
        Due.same("change to the same byte", x.change(7, 'h'), 'h');
        Due.same("change to another one", x.change(7, 'H'), 'h');
        Due.same("change back", x.change(7, 'h'), 'H');
    }

    @Due.Says("NONE when there is none such")
    static void promise04_noneSuch() {
        TextTerms x = withLetters();
        int[] wrong = {20, 21, -1, 16383, 16384, Integer.MAX_VALUE, Integer.MIN_VALUE};
        for (int i : wrong) {
            Due.same("change(" + i + ", 65)", x.change(i, 65), -1);
        }
    }

    @Due.Says("NONE when there is none such")
    static void promise04_noneSuchWhenThereAreNone() {
        TextTerms x = new TextTerms();
        Due.same("change(0, 65)", x.change(0, 65), -1);
        Due.same("end(0)", x.end(0), 0);
    }

    @Due.Says("NONE when there is none such")
    static void promise04_noneSuchBehindEnd() {
        TextTerms x = withLetters();
        x.end(4);
        Due.same("change(4, 65)", x.change(4, 65), -1);
        Due.same("change(19, 65)", x.change(19, 65), -1);
        Due.same("change(3, 65)", x.change(3, 65), 'd');
    }

    @Due.Says("or b is none")
    static void promise04_bIsNone() {
        TextTerms x = withLetters();
        int[] wrong = {-1, 256, 257, 256 + 'b', -256, -128, 65536, Integer.MAX_VALUE,
            Integer.MIN_VALUE};
        for (int b : wrong) {
            Due.same("change(0, " + b + ")", x.change(0, b), -1);
        }
        Due.same("change(20, 256)", x.change(20, 256), -1);
    }

    @Due.Says("A call that throws, or is refused, changes nothing.")
    static void promise04_refusedChangesNothing() {
        TextTerms x = withLetters();
        x.read();
        x.change(20, 65);
        x.change(-1, 65);
        x.change(0, 256);
        x.change(19, -1);
        lettersAt(x, 0, 20);
        Due.same("end(20)", x.end(20), 20);
        Due.same("count()", x.count(), 1);
        Due.same("length(0)", x.length(0), 20);
    }

    @Due.Says("those of the text that was read last")
    static void promise04_termsStayAtHand() {
        TextTerms x = Due.read("x %m 0x0a \"b\" -3");
        for (int i = 0; i < 16; i++) {
            x.change(i, 'z');
        }
        Due.same("count()", x.count(), 4);
        Due.same("part(0, 0)", x.part(0, 0), 'x');
        Due.same("mark(0, 0)", x.mark(0, 0), 'm');
        Due.same("part(1, 0)", x.part(1, 0), 10);
        Due.same("part(2, 0)", x.part(2, 0), 'b');
        Due.same("length(3)", x.length(3), 2);
        Due.holds("isNegative(3)", x.isNegative(3));
        Due.same("read() then", x.read(), -1);
        Due.same("count() then", x.count(), 1);
        Due.same("length(0) then", x.length(0), 16);
    }
}
