/** Promises 6 to 11: count, kind, parent, arguments, argument, size. */
public final class TreeTest {
    // a(0) has b(1), c(2), a sequence(5), "s"(11) in it, c has 1(3) and d(4), and so on.
    private static final String TEXT =
        "a %m b (c 1 d) { 0x ; e f (g) ; {} ; } \"s\"";
    private static final int[] KINDS = {4, 4, 4, 0, 4, 3, 2, 4, 4, 4, 3, 1};
    private static final int[] PARENTS = {-1, 0, 0, 2, 2, 0, 5, 5, 7, 7, 5, 0};
    private static final int[] SIZES = {12, 1, 3, 1, 1, 6, 1, 3, 1, 1, 1, 1};
    private static final int[][] CHILDREN = {
        {1, 2, 5, 11}, {}, {3, 4}, {}, {}, {6, 7, 10}, {}, {8, 9}, {}, {}, {}, {}};

    public static void main(String[] args) {
        tree();
        noSuchTerm();
        alone();
        wide();
        deep();
        Due.close();
    }

    private static void tree() {
        TextTerms x = Due.read(TEXT);
        Due.same("count", x.count(), KINDS.length);
        for (int t = 0; t < KINDS.length; t++) {
            Due.same("kind(" + t + ")", x.kind(t), KINDS[t]);
            Due.same("parent(" + t + ")", x.parent(t), PARENTS[t]);
            Due.same("size(" + t + ")", x.size(t), SIZES[t]);
            children(x, t, CHILDREN[t]);
        }
    }

    private static void children(TextTerms x, int t, int[] want) {
        Due.same("arguments(" + t + ")", x.arguments(t), want.length);
        for (int i = 0; i < want.length; i++) {
            Due.same("argument(" + t + ", " + i + ")", x.argument(t, i), want[i]);
        }
        int[] wrong = {want.length, want.length + 1, -1, Integer.MAX_VALUE, Integer.MIN_VALUE};
        for (int i : wrong) {
            Due.same("argument(" + t + ", " + i + ")", x.argument(t, i), -1);
        }
    }

    private static void noSuchTerm() {
        TextTerms x = Due.read(TEXT);
        int[] wrong = {12, -1, 4095, 4096, Integer.MAX_VALUE, Integer.MIN_VALUE};
        for (int t : wrong) {
            Due.same("kind(" + t + ")", x.kind(t), -1);
            Due.same("parent(" + t + ")", x.parent(t), -1);
            Due.same("arguments(" + t + ")", x.arguments(t), -1);
            Due.same("argument(" + t + ", 0)", x.argument(t, 0), -1);
            Due.same("argument(" + t + ", -1)", x.argument(t, -1), -1);
            Due.same("argument(" + t + ", -2)", x.argument(t, -2), -1);
            Due.same("size(" + t + ")", x.size(t), -1);
        }
    }

    private static void alone() {
        String[] texts = {"5", "\"x\"", "0xab", "{}", "x"};
        for (int kind = 0; kind < texts.length; kind++) {
            TextTerms x = Due.read(texts[kind]);
            Due.same("alone: count", x.count(), 1);
            Due.same("alone: kind", x.kind(0), kind);
            Due.same("alone: parent", x.parent(0), -1);
            Due.same("alone: arguments", x.arguments(0), 0);
            Due.same("alone: argument", x.argument(0, 0), -1);
            Due.same("alone: size", x.size(0), 1);
        }
    }

    private static void wide() {
        TextTerms x = Due.read("{" + "1;".repeat(4095) + "}");
        Due.same("wide: count", x.count(), 4096);
        Due.same("wide: arguments", x.arguments(0), 4095);
        Due.same("wide: size", x.size(0), 4096);
        Due.same("wide: first", x.argument(0, 0), 1);
        Due.same("wide: last", x.argument(0, 4094), 4095);
        Due.same("wide: behind it", x.argument(0, 4095), -1);
        Due.same("wide: kind of the last", x.kind(4095), 0);
        Due.same("wide: parent of the last", x.parent(4095), 0);
        Due.same("wide: begin of the last", x.begins(4095), 8189);
        Due.same("wide: end", x.ends(0), 8192);
        Due.same("wide: no more", x.kind(4096), -1);
    }

    private static void deep() {
        TextTerms x = Due.read("a(".repeat(59) + "a" + ")".repeat(59));
        for (int t = 0; t < 60; t++) {
            Due.same("deep: parent(" + t + ")", x.parent(t), t - 1);
            Due.same("deep: size(" + t + ")", x.size(t), 60 - t);
            Due.same("deep: argument(" + t + ", 0)", x.argument(t, 0), t < 59 ? t + 1 : -1);
        }
    }
}
