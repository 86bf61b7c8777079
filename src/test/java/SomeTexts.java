import java.math.BigInteger;
import java.util.Random;

/** Texts made at random: of loose pieces, well made ones, and such with a few bytes spoilt. */
final class SomeTexts {
    /** Characters that change what a text is, where they come in. */
    static final String SPOILING = "{}();%\"\\-0x1a #\n";

    private SomeTexts() {
    }

    /** A text of one of the three kinds, two in four of them well made. */
    static String any(Random random) {
        switch (random.nextInt(4)) {
            case 0:
                return soup(random);
            case 1:
                return spoilt(wellMade(random), random);
            default:
                return wellMade(random);
        }
    }

    private static String soup(Random random) {
        String[] pieces = {"{", "}", "(", ")", ";", "a", "b ", "0", "x", "0x", "1", "-", "\"",
            "\\", "\\n", "\"a\"", "%", "%m", " ", "\n", "#", "_", "f", "Pair ", "{}", "a (", "@",
            "\u00e9"};
        StringBuilder text = new StringBuilder();
        for (int i = random.nextInt(14); i > 0; i--) {
            text.append(pieces[random.nextInt(pieces.length)]);
        }
        return text.toString();
    }

    private static String wellMade(Random random) {
        StringBuilder text = new StringBuilder();
        item(text, random, random.nextInt(6));
        return text.append(blank(random)).toString();
    }

    private static String spoilt(String text, Random random) {
        StringBuilder spoilt = new StringBuilder(text);
        for (int i = random.nextInt(2); i >= 0; i--) {
            int at = random.nextInt(spoilt.length() + 1);
            char c = (char) (random.nextInt(4) == 0 ? random.nextInt(256)
                : SPOILING.charAt(random.nextInt(SPOILING.length())));
            int way = random.nextInt(4);
            if (way == 0 || at == spoilt.length()) {
                spoilt.insert(at, c);
            } else if (way == 1) {
                spoilt.deleteCharAt(at);
            } else if (way == 2) {
                spoilt.setCharAt(at, c);
            } else {
                spoilt.setLength(at);
            }
        }
        return spoilt.toString();
    }

    private static String blank(Random random) {
        String[] blanks = {" ", " ", "  ", "\t", "\n", "\r", " # x\n", "#{\"\n"};
        return blanks[random.nextInt(blanks.length)];
    }

    private static void item(StringBuilder text, Random random, int depth) {
        if (random.nextInt(3) == 0) {
            plain(text, random, depth);
        } else {
            application(text, random, depth);
        }
    }

    private static void plain(StringBuilder text, Random random, int depth) {
        switch (random.nextInt(depth > 0 ? 5 : 3)) {
            case 0:
                number(text, random);
                break;
            case 1:
                string(text, random);
                break;
            case 2:
                text.append("0x");
                for (int i = 2 * random.nextInt(4); i > 0; i--) {
                    text.append("0123456789abcdefABCDEF".charAt(random.nextInt(22)));
                }
                break;
            default:
                sequence(text, random, depth);
        }
    }

    private static void number(StringBuilder text, Random random) {
        int bits = random.nextInt(10) == 0 ? 1015 + random.nextInt(12) : random.nextInt(70);
        text.append(random.nextBoolean() ? "-" : "").append("0".repeat(random.nextInt(3)));
        text.append(new BigInteger(bits, random));
    }

    private static void string(StringBuilder text, Random random) {
        String[] pieces = {"a", " ", "n", "#", "~", "\\\\", "\\n", "\\\"", "{", "%"};
        text.append('"');
        for (int i = random.nextInt(6); i > 0; i--) {
            text.append(pieces[random.nextInt(pieces.length)]);
        }
        text.append('"');
    }

    private static void sequence(StringBuilder text, Random random, int depth) {
        text.append('{');
        int items = random.nextInt(4);
        for (int i = 0; i < items; i++) {
            item(text, random, depth - 1);
            text.append(random.nextBoolean() ? blank(random) : "");
            text.append(i < items - 1 || random.nextBoolean() ? ";" : "");
            text.append(random.nextBoolean() ? blank(random) : "");
        }
        text.append('}');
    }

    private static void word(StringBuilder text, Random random) {
        String[] words = {"a", "_x9", "pair", "Pair", "IF_NONE", "x0", "f00", "z"};
        text.append(words[random.nextInt(words.length)]);
    }

    private static void application(StringBuilder text, Random random, int depth) {
        word(text, random);
        if (random.nextInt(3) == 0) {
            text.append(random.nextBoolean() ? " %" : "%");
            text.append("a_9".repeat(1 + random.nextInt(12)), 0, 1 + random.nextInt(3));
            text.append("q".repeat(random.nextInt(8) == 0 ? 27 + random.nextInt(6) : 0));
        }
        int arguments = depth > 0 ? random.nextInt(4) : 0;
        for (int i = 0; i < arguments; i++) {
            text.append(random.nextInt(5) > 0 ? blank(random) : "");
            int way = random.nextInt(3);
            if (way == 0) {
                word(text, random);
            } else if (way == 1) {
                text.append('(').append(random.nextBoolean() ? blank(random) : "");
                application(text, random, depth - 1);
                text.append(')');
            } else {
                plain(text, random, depth - 1);
            }
        }
    }
}
