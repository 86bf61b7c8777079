/** Promises 6 to 11, sentence by sentence: the boundary cases of how terms stand in terms. */
public final class TreeBoundaryTest {
    // Term 0 is a, 1 is b, 2 is c with 3 and 4, 5 is the sequence with 6, which has 7 in it.
    private static final String TEXT = "a b (c 5 \"s\") { d 0x } ";
    private static final int TERMS = 8;
    // 4096 terms, all but one of them in term 0.
    private static final String WIDE = "{" + "1;".repeat(4095) + "}";
    private static final String DEEP = "{".repeat(60) + "}".repeat(60);

    public static void main(String[] args) {
        Due.runAll(TreeBoundaryTest.class);
    }

    /** An object whose text of before had more terms than that which it read last. */
    private static TextTerms withFewerThanBefore() {
        TextTerms x = Due.read(TEXT);
        x.end(0);
        Due.feed(x, Due.bytes("z y"), 0);
        Due.same("read()", x.read(), -1);
        return x;
    }

    /** An object whose last text was refused at its end, behind two terms. */
    private static TextTerms withRefused() {
        TextTerms x = Due.read(TEXT);
        x.end(0);
        Due.feed(x, Due.bytes("{ y"), 0);
        Due.same("read()", x.read(), 3);
        return x;
    }

    // Promise 6.

    @Due.Says("How many terms there are at hand.")
    static void promise06_noneAtFirst() {
        TextTerms x = new TextTerms();
        Due.same("count() when new", x.count(), 0);
        x.feed(0x61626364, 0x65666768, 0x696A6B6C, 0x6D6E6F70, 0x71727374);
        Due.same("count() before read()", x.count(), 0);
        Due.same("read()", x.read(), -1);
        Due.same("count() behind read()", x.count(), 1);
    }

    @Due.Says("How many terms there are at hand.")
    static void promise06_noneBehindARefusedText() {
        Due.same("count()", withRefused().count(), 0);
    }

    @Due.Says("How many terms there are at hand.")
    static void promise06_fewerThanBefore() {
        Due.same("count()", withFewerThanBefore().count(), 2);
    }

    @Due.Says("How many terms there are at hand.")
    static void promise06_oneAndTheMost() {
        Due.same("count() of one", Due.read("{}").count(), 1);
        Due.same("count() of the most", Due.read(WIDE).count(), 4096);
    }

    @Due.Says("How many terms there are at hand.")
    static void promise06_asBeforeUntilTheNextRead() {
        TextTerms x = Due.read(TEXT);
        x.change(0, '@');
        Due.same("count() behind change", x.count(), TERMS);
        x.end(0);
        Due.same("count() behind end", x.count(), TERMS);
        x.feed(0, 0, 0, 0, 0);
        Due.same("count() behind feed", x.count(), TERMS);
        Due.holds("end(-1) throws", Due.endThrows(x, -1));
        Due.same("count() behind a call that throws", x.count(), TERMS);
    }

    // Promise 7.

    @Due.Says("0 a number, 1 a string, 2 bytes, 3 a sequence, 4 an application")
    static void promise07_eachKind() {
        TextTerms x = Due.read(TEXT);
        int[] want = {4, 4, 4, 0, 1, 3, 4, 2};
        for (int t = 0; t < TERMS; t++) {
            Due.same("kind(" + t + ")", x.kind(t), want[t]);
        }
    }

    @Due.Says("NONE when there is no such term.")
    static void promise07_noSuchTerm() {
        TextTerms x = Due.read(TEXT);
        Due.same("kind(8)", x.kind(TERMS), -1);
        for (int t : Due.NO_TERMS) {
            Due.same("kind(" + t + ")", x.kind(t), -1);
        }
        Due.same("kind(2), which there was before", withFewerThanBefore().kind(2), -1);
        Due.same("kind(0) behind a refused text", withRefused().kind(0), -1);
        TextTerms wide = Due.read(WIDE);
        Due.same("kind(4095) of the most", wide.kind(4095), 0);
        Due.same("kind(4096) of the most", wide.kind(4096), -1);
    }

    // Promise 8.

    @Due.Says("The term in which t stands")
    static void promise08_theTermInWhichItStandsAtOnce() {
        TextTerms x = Due.read(TEXT);
        int[] want = {-1, 0, 0, 2, 2, 0, 5, 6};
        for (int t = 0; t < TERMS; t++) {
            Due.same("parent(" + t + ")", x.parent(t), want[t]);
        }
    }

    @Due.Says("NONE when it stands in none")
    static void promise08_standsInNone() {
        String[] texts = {"5", "\"s\"", "0xab", "{a;b}", "a b"};
        for (String text : texts) {
            Due.same("parent(0) of <" + text + ">", Due.read(text).parent(0), -1);
        }
    }

    @Due.Says("NONE when it stands in none, or there is no such term.")
    static void promise08_noSuchTerm() {
        TextTerms x = Due.read(TEXT);
        Due.same("parent(8)", x.parent(TERMS), -1);
        for (int t : Due.NO_TERMS) {
            Due.same("parent(" + t + ")", x.parent(t), -1);
        }
        Due.same("parent(2), which there was before", withFewerThanBefore().parent(2), -1);
        Due.same("parent(1) behind a refused text", withRefused().parent(1), -1);
    }

    @Due.Says("The term in which t stands")
    static void promise08_deepestAndLast() {
        TextTerms deep = Due.read(DEEP);
        for (int t = 0; t < 60; t++) {
            Due.same("parent(" + t + ")", deep.parent(t), t - 1);
        }
        Due.same("parent(60)", deep.parent(60), -1);
        Due.same("parent(4095)", Due.read(WIDE).parent(4095), 0);
    }

    // Promise 9.

    @Due.Says("How many terms stand in t at once (items, arguments)")
    static void promise09_onlyThoseThatStandInItAtOnce() {
        TextTerms x = Due.read(TEXT);
        int[] want = {3, 0, 2, 0, 0, 1, 1, 0};
        for (int t = 0; t < TERMS; t++) {
            Due.same("arguments(" + t + ")", x.arguments(t), want[t]);
        }
    }

    @Due.Says("How many terms stand in t at once (items, arguments)")
    static void promise09_none() {
        String[] texts = {"5", "\"s\"", "0xab", "{}", "a", "a %m"};
        for (String text : texts) {
            Due.same("arguments(0) of <" + text + ">", Due.read(text).arguments(0), 0);
        }
    }

    @Due.Says("How many terms stand in t at once (items, arguments)")
    static void promise09_theMost() {
        Due.same("arguments(0) of a sequence", Due.read(WIDE).arguments(0), 4095);
        TextTerms x = Due.read("a" + " b".repeat(4095));
        Due.same("arguments(0) of an application", x.arguments(0), 4095);
        Due.same("arguments(4095)", x.arguments(4095), 0);
    }

    @Due.Says("NONE when there is no such term.")
    static void promise09_noSuchTerm() {
        TextTerms x = Due.read(TEXT);
        Due.same("arguments(8)", x.arguments(TERMS), -1);
        for (int t : Due.NO_TERMS) {
            Due.same("arguments(" + t + ")", x.arguments(t), -1);
        }
        Due.same("arguments(2), of before", withFewerThanBefore().arguments(2), -1);
        Due.same("arguments(0) behind a refused text", withRefused().arguments(0), -1);
    }

    // Promise 10.

    @Due.Says("The i-th (from 0) of them")
    static void promise10_firstToLast() {
        TextTerms x = Due.read(TEXT);
        Due.same("argument(0, 0)", x.argument(0, 0), 1);
        Due.same("argument(0, 1)", x.argument(0, 1), 2);
        Due.same("argument(0, 2)", x.argument(0, 2), 5);
        Due.same("argument(2, 0)", x.argument(2, 0), 3);
        Due.same("argument(2, 1)", x.argument(2, 1), 4);
        Due.same("argument(5, 0)", x.argument(5, 0), 6);
        Due.same("argument(6, 0)", x.argument(6, 0), 7);
    }

    @Due.Says("The i-th (from 0) of them")
    static void promise10_firstAndLastOfTheMost() {
        TextTerms x = Due.read(WIDE);
        Due.same("argument(0, 0)", x.argument(0, 0), 1);
        Due.same("argument(0, 4094)", x.argument(0, 4094), 4095);
        Due.same("argument(0, 4095)", x.argument(0, 4095), -1);
        Due.same("argument(0, 4096)", x.argument(0, 4096), -1);
    }

    @Due.Says("NONE when there is none such.")
    static void promise10_noneSuchBehindTheLast() {
        TextTerms x = Due.read(TEXT);
        int[] inside = {3, 0, 2, 0, 0, 1, 1, 0};
        for (int t = 0; t < TERMS; t++) {
            int[] wrong = {inside[t], inside[t] + 1, 4096, Integer.MAX_VALUE};
            for (int i : wrong) {
                Due.same("argument(" + t + ", " + i + ")", x.argument(t, i), -1);
            }
        }
    }

    @Due.Says("NONE when there is none such.")
    static void promise10_noneSuchBelow0() {
        TextTerms x = Due.read(TEXT);
        int[] wrong = {-1, -2, -4096, Integer.MIN_VALUE};
        for (int t = 0; t < TERMS; t++) {
            for (int i : wrong) {
                Due.same("argument(" + t + ", " + i + ")", x.argument(t, i), -1);
            }
        }
    }

    @Due.Says("NONE when there is none such.")
    static void promise10_noneSuchWithoutATerm() {
        TextTerms x = Due.read(TEXT);
        int[] places = {0, 1, -1, -2, Integer.MAX_VALUE, Integer.MIN_VALUE};
        for (int i : places) {
            Due.same("argument(8, " + i + ")", x.argument(TERMS, i), -1);
            for (int t : Due.NO_TERMS) {
                Due.same("argument(" + t + ", " + i + ")", x.argument(t, i), -1);
            }
        }
        Due.same("argument(2, 0), of before", withFewerThanBefore().argument(2, 0), -1);
        Due.same("argument(0, 0) behind a refused text", withRefused().argument(0, 0), -1);
    }

    // Promise 11.

    @Due.Says("How many terms t has in it, itself counted")
    static void promise11_allThatStandInIt() {
        TextTerms x = Due.read(TEXT);
        int[] want = {8, 1, 3, 1, 1, 3, 2, 1};
        for (int t = 0; t < TERMS; t++) {
            Due.same("size(" + t + ")", x.size(t), want[t]);
        }
    }

    @Due.Says("itself counted")
    static void promise11_itselfAlone() {
        String[] texts = {"5", "\"s\"", "0xab", "{}", "a", "a %m"};
        for (String text : texts) {
            Due.same("size(0) of <" + text + ">", Due.read(text).size(0), 1);
        }
    }

    @Due.Says("How many terms t has in it, itself counted")
    static void promise11_theMost() {
        TextTerms wide = Due.read(WIDE);
        Due.same("size(0) of the widest", wide.size(0), 4096);
        Due.same("size(4095) of the widest", wide.size(4095), 1);
        TextTerms deep = Due.read(DEEP);
        for (int t = 0; t < 60; t++) {
            Due.same("size(" + t + ") of the deepest", deep.size(t), 60 - t);
        }
    }

    @Due.Says("NONE when there is no such term.")
    static void promise11_noSuchTerm() {
        TextTerms x = Due.read(TEXT);
        Due.same("size(8)", x.size(TERMS), -1);
        for (int t : Due.NO_TERMS) {
            Due.same("size(" + t + ")", x.size(t), -1);
        }
        Due.same("size(2), of before", withFewerThanBefore().size(2), -1);
        Due.same("size(0) behind a refused text", withRefused().size(0), -1);
    }
}
