import java.math.BigInteger;
import java.util.ArrayList;
import java.util.List;
import java.util.Random;
import java.util.regex.Matcher;
import java.util.regex.Pattern;

/**
 * Holds the class against a second reading of the document, written another way (patterns for
 * the tokens, recursion for the grammar), on texts made at random from fixed seeds.
 */
public final class ModelTest {
    private static final Pattern BLANKS = Pattern.compile("(?:[ \\t\\n\\r]++|#[^\\n]*+)*+");
    private static final Pattern HEX = Pattern.compile("0x[0-9a-fA-F]*+");
    private static final Pattern TOKEN = Pattern.compile(
        "(-?[0-9]++)|(\"(?:[ !#-\\[\\]-~]|\\\\[\\\\\"n])*+\")|([A-Za-z_][A-Za-z0-9_]*+)"
        + "|(%[A-Za-z0-9_]{1,31}+)|([{}();])");
    // An object is promised for 512 calls: a new one takes over before that.
    private static final int CALLS_OF_ONE = 400;

    /** A term as the model sees it. */
    private static final class Term {
        int kind;
        int parent;
        int from;
        int to;
        String mark = "";
        String token;
        final List<Integer> inside = new ArrayList<>();
    }

    private static final class Refused extends Exception {
        final int place;

        Refused(int place) {
            this.place = place;
        }
    }

    /** Reads one text by the document's words. */
    private static final class Model {
        final String text;
        final List<Term> terms = new ArrayList<>();
        int from;
        int to;
        // n number, b bytes, s string, w word, % mark, a sign itself, ! no token, $ the end
        char token;

        Model(String text) {
            this.text = text;
        }

        int read() {
            try {
                next();
                item(-1, 0);
                if (token != '$') {
                    throw new Refused(from);
                }
                return -1;
            } catch (Refused refused) {
                terms.clear();
                return refused.place;
            }
        }

        void next() {
            Matcher blanks = BLANKS.matcher(text).region(to, text.length());
            from = blanks.lookingAt() ? blanks.end() : to;
            if (from == text.length()) {
                token = '$';
                return;
            }
            Matcher hex = HEX.matcher(text).region(from, text.length());
            if (hex.lookingAt()) {
                to = hex.end();
                token = (to - from) % 2 == 0 ? 'b' : '!';
                return;
            }
            Matcher any = TOKEN.matcher(text).region(from, text.length());
            if (!any.lookingAt()) {
                token = '!';
                return;
            }
            to = any.end();
            token = any.group(5) != null ? any.group().charAt(0)
                : any.group(4) != null ? '%' : any.group(3) != null ? 'w'
                : any.group(2) != null ? 's' : 'n';
        }

        void item(int parent, int depth) throws Refused {
            if (token == 'w') {
                application(parent, depth);
            } else {
                plain(parent, depth);
            }
        }

        void plain(int parent, int depth) throws Refused {
            int kind = "nsb{".indexOf(token);
            if (kind < 0) {
                throw new Refused(from);
            }
            int t = begin(kind, parent, depth);
            next();
            if (kind == 3) {
                items(t, depth + 1);
            }
        }

        void items(int t, int depth) throws Refused {
            while (token != '}') {
                item(t, depth);
                if (token == ';') {
                    next();
                } else if (token != '}') {
                    throw new Refused(from);
                }
            }
            terms.get(t).to = to;
            next();
        }

        void application(int parent, int depth) throws Refused {
            if (token != 'w') {
                throw new Refused(from);
            }
            int t = begin(4, parent, depth);
            next();
            if (token == '%') {
                terms.get(t).mark = text.substring(from + 1, to);
                next();
            }
            while ("nsb{w(".indexOf(token) >= 0) {
                argument(t, depth + 1);
            }
        }

        void argument(int t, int depth) throws Refused {
            if (token == 'w') {
                begin(4, t, depth);
                next();
            } else if (token == '(') {
                next();
                application(t, depth);
                if (token != ')') {
                    throw new Refused(from);
                }
                next();
            } else {
                plain(t, depth);
            }
        }

        int begin(int kind, int parent, int depth) throws Refused {
            Term term = new Term();
            term.kind = kind;
            term.parent = parent;
            term.from = from;
            term.to = to;
            term.token = text.substring(from, to);
            boolean large = kind == 0 && new BigInteger(term.token).abs().bitLength() > 1024;
            if (large || depth >= 60 || terms.size() >= 4096) {
                throw new Refused(from);
            }
            terms.add(term);
            if (parent >= 0) {
                terms.get(parent).inside.add(terms.size() - 1);
            }
            return terms.size() - 1;
        }

        int size(int t) {
            int size = 1;
            for (int child : terms.get(t).inside) {
                size += size(child);
            }
            return size;
        }
    }

    private static TextTerms object;
    private static String textOfObject;
    private static int calls;

    /** The object to ask, made anew before it has answered too many calls. */
    private static TextTerms asked() {
        if (object == null || calls >= CALLS_OF_ONE) {
            object = Due.fed(textOfObject);
            calls = textOfObject.length() / 20 + 2;
            object.read();
        }
        calls++;
        return object;
    }

    public static void main(String[] args) {
        Random random = new Random(20261115);
        int read = 0;
        int refused = 0;
        for (int round = 0; round < 20000; round++) {
            String text = round % 4 == 0 ? soup(random) : wellMade(random);
            if (round % 4 == 2) {
                text = spoilt(text, random);
            }
            if (compare(text) < 0) {
                read++;
            } else {
                refused++;
            }
        }
        System.out.println(read + " texts read, " + refused + " refused");
        Due.holds("enough texts of both kinds", read > 2000 && refused > 2000);
        Due.close();
    }

    private static int compare(String text) {
        Model model = new Model(text);
        int place = model.read();
        object = null;
        textOfObject = text;
        String of = " of <" + text + ">";
        Due.same("read" + of, Due.fed(text).read(), place);
        Due.same("count" + of, asked().count(), model.terms.size());
        for (int t = 0; t < model.terms.size(); t++) {
            compareTerm(model, t, "(" + t + ")" + of);
        }
        Due.same("kind behind the last" + of, asked().kind(model.terms.size()), -1);
        return place;
    }

    private static void compareTerm(Model model, int t, String of) {
        Term term = model.terms.get(t);
        Due.same("kind" + of, asked().kind(t), term.kind);
        Due.same("parent" + of, asked().parent(t), term.parent);
        Due.same("begins" + of, asked().begins(t), term.from);
        Due.same("ends" + of, asked().ends(t), term.to);
        Due.same("size" + of, asked().size(t), model.size(t));
        Due.same("arguments" + of, asked().arguments(t), term.inside.size());
        for (int i = -1; i <= term.inside.size(); i++) {
            boolean is = i >= 0 && i < term.inside.size();
            Due.same("argument " + i + of, asked().argument(t, i), is ? term.inside.get(i) : -1);
        }
        for (int i = -1; i <= term.mark.length(); i++) {
            boolean is = i >= 0 && i < term.mark.length();
            Due.same("mark " + i + of, asked().mark(t, i), is ? term.mark.charAt(i) : -1);
        }
        int[] parts = meaning(term);
        Due.same("length" + of, asked().length(t), parts == null ? -1 : parts.length);
        int many = parts == null ? 0 : parts.length;
        for (int i = -1; i <= many; i += many > 70 ? 13 : 1) {
            boolean is = i >= 0 && i < many;
            Due.same("part " + i + of, asked().part(t, i), is ? parts[i] : -1);
        }
        boolean negative = term.kind == 0 && new BigInteger(term.token).signum() < 0;
        Due.holds("isNegative" + of, asked().isNegative(t) == negative);
    }

    private static int[] meaning(Term term) {
        switch (term.kind) {
            case 0:
                BigInteger size = new BigInteger(term.token).abs();
                int[] bits = new int[size.bitLength()];
                for (int i = 0; i < bits.length; i++) {
                    bits[i] = size.testBit(i) ? 1 : 0;
                }
                return bits;
            case 1:
                return term.token.substring(1, term.token.length() - 1)
                    .replaceAll("\\\\([^n])", "$1\u0001").replace("\\n", "\n\u0001")
                    .replace("\u0001", "").chars().toArray();
            case 2:
                int[] bytes = new int[term.token.length() / 2 - 1];
                for (int i = 0; i < bytes.length; i++) {
                    bytes[i] = Integer.parseInt(term.token.substring(2 + 2 * i, 4 + 2 * i), 16);
                }
                return bytes;
            case 4:
                return term.token.chars().toArray();
            default:
                return null;
        }
    }

    private static String soup(Random random) {
        String[] pieces = {"{", "}", "(", ")", ";", "a", "b ", "0", "x", "0x", "1", "-", "\"", "\\",
            "\\n", "\"a\"", "%", "%m", " ", "\n", "#", "_", "f", "Pair ", "{}", "a (", "@", "\u00e9"};
        StringBuilder text = new StringBuilder();
        for (int i = random.nextInt(14); i > 0; i--) {
            text.append(pieces[random.nextInt(pieces.length)]);
        }
        return text.toString();
    }

    private static String wellMade(Random random) {
        StringBuilder text = new StringBuilder();
        item(text, random, random.nextInt(6));
        return text.append(blank(random)).toString();
    }

    private static String spoilt(String text, Random random) {
        StringBuilder spoilt = new StringBuilder(text);
        for (int i = random.nextInt(2); i >= 0; i--) {
            int at = random.nextInt(spoilt.length() + 1);
            char c = (char) (random.nextInt(4) == 0 ? random.nextInt(256)
                : "{}();%\"\\-0x1a #\n".charAt(random.nextInt(16)));
            int way = random.nextInt(4);
            if (way == 0 || at == spoilt.length()) {
                spoilt.insert(at, c);
            } else if (way == 1) {
                spoilt.deleteCharAt(at);
            } else if (way == 2) {
                spoilt.setCharAt(at, c);
            } else {
                spoilt.setLength(at);
            }
        }
        return spoilt.toString();
    }

    private static String blank(Random random) {
        String[] blanks = {" ", " ", "  ", "\t", "\n", "\r", " # x\n", "#{\"\n"};
        return blanks[random.nextInt(blanks.length)];
    }

    private static void item(StringBuilder text, Random random, int depth) {
        if (random.nextInt(3) == 0) {
            plain(text, random, depth);
        } else {
            application(text, random, depth);
        }
    }

    private static void plain(StringBuilder text, Random random, int depth) {
        switch (random.nextInt(depth > 0 ? 5 : 3)) {
            case 0:
                number(text, random);
                break;
            case 1:
                string(text, random);
                break;
            case 2:
                text.append("0x");
                for (int i = 2 * random.nextInt(4); i > 0; i--) {
                    text.append("0123456789abcdefABCDEF".charAt(random.nextInt(22)));
                }
                break;
            default:
                sequence(text, random, depth);
        }
    }

    private static void number(StringBuilder text, Random random) {
        int bits = random.nextInt(10) == 0 ? 1015 + random.nextInt(12) : random.nextInt(70);
        text.append(random.nextBoolean() ? "-" : "").append("0".repeat(random.nextInt(3)));
        text.append(new BigInteger(bits, random));
    }

    private static void string(StringBuilder text, Random random) {
        String[] pieces = {"a", " ", "n", "#", "~", "\\\\", "\\n", "\\\"", "{", "%"};
        text.append('"');
        for (int i = random.nextInt(6); i > 0; i--) {
            text.append(pieces[random.nextInt(pieces.length)]);
        }
        text.append('"');
    }

    private static void sequence(StringBuilder text, Random random, int depth) {
        text.append('{');
        int items = random.nextInt(4);
        for (int i = 0; i < items; i++) {
            item(text, random, depth - 1);
            text.append(random.nextBoolean() ? blank(random) : "");
            text.append(i < items - 1 || random.nextBoolean() ? ";" : "");
            text.append(random.nextBoolean() ? blank(random) : "");
        }
        text.append('}');
    }

    private static void word(StringBuilder text, Random random) {
        String[] words = {"a", "_x9", "pair", "Pair", "IF_NONE", "x0", "f00", "z"};
        text.append(words[random.nextInt(words.length)]);
    }

    private static void application(StringBuilder text, Random random, int depth) {
        word(text, random);
        if (random.nextInt(3) == 0) {
            text.append(random.nextBoolean() ? " %" : "%");
            text.append("a_9".repeat(1 + random.nextInt(12)), 0, 1 + random.nextInt(3));
            text.append("q".repeat(random.nextInt(8) == 0 ? 27 + random.nextInt(6) : 0));
        }
        int arguments = depth > 0 ? random.nextInt(4) : 0;
        for (int i = 0; i < arguments; i++) {
            text.append(random.nextInt(5) > 0 ? blank(random) : "");
            int way = random.nextInt(3);
            if (way == 0) {
                word(text, random);
            } else if (way == 1) {
                text.append('(').append(random.nextBoolean() ? blank(random) : "");
                application(text, random, depth - 1);
                text.append(')');
            } else {
                plain(text, random, depth - 1);
            }
        }
    }
}
