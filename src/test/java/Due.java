import java.nio.charset.StandardCharsets;

/** What the tests share: objects with a text fed to them, and answers held against what is due. */
final class Due {
    private static int asked = 0;
    private static int wrong = 0;

    private Due() {
    }

    static void same(String call, long got, long want) {
        asked++;
        if (got != want) {
            wrong++;
            System.out.println(call + " answered " + got + ", due is " + want);
        }
    }

    static void holds(String what, boolean isSo) {
        same(what, isSo ? 1 : 0, 1);
    }

    static byte[] bytes(String text) {
        return text.getBytes(StandardCharsets.ISO_8859_1);
    }

    /** Feeds the bytes behind those that are there, filled up with blanks that end() takes off. */
    static void feed(TextTerms x, byte[] bytes, int before) {
        int[] five = new int[5];
        for (int at = 0; at < bytes.length; at += 20) {
            for (int i = 0; i < 20; i++) {
                int value = at + i < bytes.length ? bytes[at + i] & 255 : 32;
                five[i / 4] = five[i / 4] << 8 | value;
            }
            x.feed(five[0], five[1], five[2], five[3], five[4]);
        }
        x.end(before + bytes.length);
    }

    static TextTerms fed(String text) {
        TextTerms x = new TextTerms();
        feed(x, bytes(text), 0);
        return x;
    }

    /** An object that has read the text, which must not be refused. */
    static TextTerms read(String text) {
        TextTerms x = fed(text);
        same("read of <" + text + ">", x.read(), TextTerms.NONE);
        return x;
    }

    static void refused(String text, int place) {
        TextTerms x = fed(text);
        same("read of <" + text + ">", x.read(), place);
        same("count behind refused <" + text + ">", x.count(), 0);
        same("kind(0) behind refused <" + text + ">", x.kind(0), TextTerms.NONE);
    }

    static void close() {
        System.out.println(asked + " answers, " + wrong + " of them wrong");
        if (asked == 0 || wrong != 0) {
            System.exit(1);
        }
    }
}
