import java.util.Random;

/**
 * Runs of 512 calls in any order on new objects, with fitting and with wild arguments, from a
 * fixed seed: the bytes that came in and the terms at hand must each stay as they are until a
 * call says otherwise. What is due is told by the model.
 */
public final class RunsTest {
    private static final int RUNS = 400;
    private static final int CALLS = 512;
    private static final int[] WILD = {Integer.MIN_VALUE, Integer.MAX_VALUE, -1, 0, 1, 255, 256,
        4095, 4096, 16383, 16384, 1 << 30, -(1 << 30)};

    private final int number;
    private final Random random;
    private final TextTerms x = new TextTerms();
    private final StringBuilder bytes = new StringBuilder();
    // The model of the text that was read last; at first one without terms.
    private Model atHand = new Model("");
    private int calls = 0;
    private int texts = 0;

    private RunsTest(int number) {
        this.number = number;
        this.random = new Random(number);
    }

    public static void main(String[] args) {
        int texts = 0;
        for (int number = 0; number < RUNS; number++) {
            RunsTest run = new RunsTest(number);
            while (run.calls < CALLS) {
                run.some();
            }
            texts += run.texts;
        }
        System.out.println(RUNS + " runs, in which " + texts + " texts were read");
        Due.holds("enough texts were read", texts > 5 * RUNS);
        Due.close();
    }

    /** Holds one call against what is due, and counts it; calls behind the 512th are free. */
    private void due(String call, long got, long want) {
        calls++;
        if (calls <= CALLS) {
            Due.same("run " + number + ", call " + calls + ": " + call, got, want);
        }
    }

    private void some() {
        switch (random.nextInt(12)) {
            case 0:
                end(0);
                feedText(SomeTexts.any(random));
                read();
                break;
            case 1:
                if (random.nextInt(3) == 0) {
                    feedText(SomeTexts.any(random));
                }
                break;
            case 2:
                end(random.nextBoolean() ? near(bytes.length()) : wild());
                break;
            case 3:
                change(random.nextInt(4) > 0 ? upTo(bytes.length()) : wild(),
                    random.nextInt(4) > 0 ? spoiling() : wild());
                break;
            case 4:
                read();
                break;
            default:
                ask(random.nextInt(6) > 0 ? upTo(atHand.count()) : wild());
        }
    }

    private int wild() {
        return random.nextInt(3) == 0 ? random.nextInt() : WILD[random.nextInt(WILD.length)];
    }

    private int spoiling() {
        return SomeTexts.SPOILING.charAt(random.nextInt(SomeTexts.SPOILING.length()));
    }

    private int near(int n) {
        return n - 2 + random.nextInt(4);
    }

    /** From -1 to the number itself, which is one too many. */
    private int upTo(int n) {
        return random.nextInt(n + 2) - 1;
    }

    private void feedText(String text) {
        int whole = bytes.length() + text.length();
        for (int at = 0; at < text.length(); at += 20) {
            StringBuilder twenty = new StringBuilder(20);
            for (int i = at; i < at + 20; i++) {
                twenty.append(i < text.length() ? text.charAt(i) : (char) random.nextInt(256));
            }
            x.feed(four(twenty, 0), four(twenty, 4), four(twenty, 8), four(twenty, 12),
                four(twenty, 16));
            calls++;
            bytes.append(twenty);
        }
        end(whole);
    }

    private static int four(CharSequence from, int at) {
        return from.charAt(at) << 24 | from.charAt(at + 1) << 16 | from.charAt(at + 2) << 8
            | from.charAt(at + 3);
    }

    private void end(int n) {
        // An answer that a call can't give stands for the exception.
        long got;
        try {
            got = x.end(n);
        } catch (IllegalArgumentException e) {
            got = Long.MIN_VALUE;
        }
        boolean throwsIt = n < 0 || n > bytes.length();
        due("end(" + n + ")", got, throwsIt ? Long.MIN_VALUE : bytes.length());
        if (!throwsIt) {
            bytes.setLength(n);
        }
    }

    private void change(int i, int b) {
        boolean is = i >= 0 && i < bytes.length() && b >= 0 && b <= 255;
        due("change(" + i + ", " + b + ")", x.change(i, b), is ? bytes.charAt(i) : -1);
        if (is) {
            bytes.setCharAt(i, (char) b);
        }
    }

    private void read() {
        atHand = new Model(bytes.toString());
        int want = atHand.read();
        due("read() of <" + bytes + ">", x.read(), want);
        texts += want == TextTerms.NONE ? 1 : 0;
    }

    private void ask(int t) {
        int most = Math.max(1, Math.max(atHand.arguments(t), atHand.length(t)));
        // The first few are asked more often than others: many terms have no more of them.
        int fit = upTo(random.nextBoolean() ? most : Math.min(most, 3));
        int i = random.nextInt(6) > 0 ? fit : wild();
        String one = "(" + t + ")";
        String two = "(" + t + ", " + i + ")";
        switch (random.nextInt(13)) {
            case 0:
                due("count()", x.count(), atHand.count());
                break;
            case 1:
                due("kind" + one, x.kind(t), atHand.kind(t));
                break;
            case 2:
                due("parent" + one, x.parent(t), atHand.parent(t));
                break;
            case 3:
                due("arguments" + one, x.arguments(t), atHand.arguments(t));
                break;
            case 4:
                due("argument" + two, x.argument(t, i), atHand.argument(t, i));
                break;
            case 5:
                due("size" + one, x.size(t), atHand.size(t));
                break;
            case 6:
                due("word" + one, x.word(t), atHand.word(t));
                break;
            case 7:
                due("begins" + one, x.begins(t), atHand.begins(t));
                break;
            case 8:
                due("ends" + one, x.ends(t), atHand.ends(t));
                break;
            case 9:
                due("mark" + two, x.mark(t, i), atHand.mark(t, i));
                break;
            case 10:
                due("length" + one, x.length(t), atHand.length(t));
                break;
            case 11:
                due("part" + two, x.part(t, i), atHand.part(t, i));
                break;
            default:
                due("isNegative" + one, x.isNegative(t) ? 1 : 0, atHand.isNegative(t) ? 1 : 0);
        }
    }
}
