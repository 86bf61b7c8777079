import java.math.BigInteger;
import java.util.ArrayList;
import java.util.Arrays;
import java.util.List;
import java.util.regex.Matcher;
import java.util.regex.Pattern;

/**
 * A second reading of the document, written another way (patterns for the tokens, recursion for
 * the grammar): reads one text, and answers what is due to the calls about its terms.
 */
final class Model {
    private static final Pattern BLANKS = Pattern.compile("(?:[ \\t\\n\\r]++|#[^\\n]*+)*+");
    private static final Pattern HEX = Pattern.compile("0x[0-9a-fA-F]*+");
    private static final Pattern TOKEN = Pattern.compile(
        "(-?[0-9]++)|(\"(?:[ !#-\\[\\]-~]++|\\\\[\\\\\"n])*+\")|([A-Za-z_][A-Za-z0-9_]*+)"
        + "|(%[A-Za-z0-9_]{1,31}+)|([{}();])");
    private static final List<String> KNOWN_WORDS = Arrays.asList((
        "unit bool int nat mutez string bytes address timestamp operation option list "
        + "set contract or map big_map lambda pair Unit True False None Some Left Right "
        + "Pair Elt parameter storage code DROP DUP SWAP DIG DUG PUSH DIP UNIT PAIR "
        + "UNPAIR CAR CDR SOME NONE LEFT RIGHT NIL CONS EMPTY_SET EMPTY_MAP EMPTY_BIG_MAP "
        + "IF IF_NONE IF_LEFT IF_CONS LOOP LOOP_LEFT ITER MAP FAILWITH LAMBDA EXEC APPLY "
        + "ADD SUB SUB_MUTEZ MUL EDIV NEG ABS INT ISNAT AND OR XOR NOT LSL LSR COMPARE EQ "
        + "NEQ LT GT LE GE CONCAT SLICE SIZE MEM GET UPDATE GET_AND_UPDATE PACK UNPACK "
        + "AMOUNT BALANCE SENDER SOURCE SELF_ADDRESS NOW LEVEL SELF ADDRESS CONTRACT "
        + "TRANSFER_TOKENS CREATE_CONTRACT")
        .split(" "));
    private static final int NONE = -1;

    private static final class Term {
        int kind;
        int parent;
        int from;
        int to;
        String mark = "";
        String token;
        final List<Integer> inside = new ArrayList<>();
    }

    private static final class Refused extends Exception {
        final int place;

        Refused(int place) {
            this.place = place;
        }
    }

    private final String text;
    private final List<Term> terms = new ArrayList<>();
    private int from;
    private int to;
    // n number, b bytes, s string, w word, % mark, a sign itself, ! no token, $ the end
    private char token;

    Model(String text) {
        this.text = text;
    }

    int read() {
        try {
            next();
            readItem(-1, 0);
            if (token != '$') {
                throw new Refused(from);
            }
            return -1;
        } catch (Refused refused) {
            terms.clear();
            return refused.place;
        }
    }

    private void next() {
        Matcher blanks = BLANKS.matcher(text).region(to, text.length());
        from = blanks.lookingAt() ? blanks.end() : to;
        if (from == text.length()) {
            token = '$';
            return;
        }
        Matcher hex = HEX.matcher(text).region(from, text.length());
        if (hex.lookingAt()) {
            to = hex.end();
            token = (to - from) % 2 == 0 ? 'b' : '!';
            return;
        }
        Matcher any = TOKEN.matcher(text).region(from, text.length());
        if (!any.lookingAt()) {
            token = '!';
            return;
        }
        to = any.end();
        token = any.group(5) != null ? any.group().charAt(0)
            : any.group(4) != null ? '%' : any.group(3) != null ? 'w'
            : any.group(2) != null ? 's' : 'n';
    }

    private void readItem(int parent, int depth) throws Refused {
        if (token == 'w') {
            readApplication(parent, depth);
        } else {
            readPlain(parent, depth);
        }
    }

    private void readPlain(int parent, int depth) throws Refused {
        int kind = "nsb{".indexOf(token);
        if (kind < 0) {
            throw new Refused(from);
        }
        int t = begin(kind, parent, depth);
        next();
        if (kind == 3) {
            readItems(t, depth + 1);
        }
    }

    private void readItems(int t, int depth) throws Refused {
        while (token != '}') {
            readItem(t, depth);
            if (token == ';') {
                next();
            } else if (token != '}') {
                throw new Refused(from);
            }
        }
        terms.get(t).to = to;
        next();
    }

    private void readApplication(int parent, int depth) throws Refused {
        if (token != 'w') {
            throw new Refused(from);
        }
        int t = begin(4, parent, depth);
        next();
        if (token == '%') {
            terms.get(t).mark = text.substring(from + 1, to);
            next();
        }
        while ("nsb{w(".indexOf(token) >= 0) {
            readArgument(t, depth + 1);
        }
    }

    private void readArgument(int t, int depth) throws Refused {
        if (token == 'w') {
            begin(4, t, depth);
            next();
        } else if (token == '(') {
            next();
            readApplication(t, depth);
            if (token != ')') {
                throw new Refused(from);
            }
            next();
        } else {
            readPlain(t, depth);
        }
    }

    private int begin(int kind, int parent, int depth) throws Refused {
        Term term = new Term();
        term.kind = kind;
        term.parent = parent;
        term.from = from;
        term.to = to;
        term.token = text.substring(from, to);
        boolean large = kind == 0 && new BigInteger(term.token).abs().bitLength() > 1024;
        if (large || depth >= 60 || terms.size() >= 4096) {
            throw new Refused(from);
        }
        terms.add(term);
        if (parent >= 0) {
            terms.get(parent).inside.add(terms.size() - 1);
        }
        return terms.size() - 1;
    }

    int count() {
        return terms.size();
    }

    private boolean has(int t) {
        return t >= 0 && t < terms.size();
    }

    int kind(int t) {
        return has(t) ? terms.get(t).kind : NONE;
    }

    int parent(int t) {
        return has(t) ? terms.get(t).parent : NONE;
    }

    int arguments(int t) {
        return has(t) ? terms.get(t).inside.size() : NONE;
    }

    int argument(int t, int i) {
        return i >= 0 && i < arguments(t) ? terms.get(t).inside.get(i) : NONE;
    }

    int size(int t) {
        if (!has(t)) {
            return NONE;
        }
        int size = 1;
        for (int child : terms.get(t).inside) {
            size += size(child);
        }
        return size;
    }

    int word(int t) {
        return kind(t) == 4 ? KNOWN_WORDS.indexOf(terms.get(t).token) : NONE;
    }

    int begins(int t) {
        return has(t) ? terms.get(t).from : NONE;
    }

    int ends(int t) {
        return has(t) ? terms.get(t).to : NONE;
    }

    int mark(int t, int i) {
        String mark = has(t) ? terms.get(t).mark : "";
        return i >= 0 && i < mark.length() ? mark.charAt(i) : NONE;
    }

    int length(int t) {
        int[] parts = meaning(t);
        return parts == null ? NONE : parts.length;
    }

    int part(int t, int i) {
        return i >= 0 && i < length(t) ? meaning(t)[i] : NONE;
    }

    boolean isNegative(int t) {
        return kind(t) == 0 && new BigInteger(terms.get(t).token).signum() < 0;
    }

    /** The bytes or bits that a term means; null for a sequence, or when there is no such term. */
    private int[] meaning(int t) {
        String written = has(t) ? terms.get(t).token : "";
        switch (kind(t)) {
            case 0:
                BigInteger magnitude = new BigInteger(written).abs();
                int[] bits = new int[magnitude.bitLength()];
                for (int i = 0; i < bits.length; i++) {
                    bits[i] = magnitude.testBit(i) ? 1 : 0;
                }
                return bits;
            case 1:
                return written.substring(1, written.length() - 1)
                    .replaceAll("\\\\([^n])", "$1\u0001").replace("\\n", "\n\u0001")
                    .replace("\u0001", "").chars().toArray();
            case 2:
                int[] bytes = new int[written.length() / 2 - 1];
                for (int i = 0; i < bytes.length; i++) {
                    bytes[i] = Integer.parseInt(written.substring(2 + 2 * i, 4 + 2 * i), 16);
                }
                return bytes;
            case 4:
                return written.chars().toArray();
            default:
                return null;
        }
    }
}
