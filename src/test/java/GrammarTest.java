import java.util.ArrayList;
import java.util.LinkedHashSet;
import java.util.List;
import java.util.Objects;
import java.util.Set;

/**
 * The document's grammar as rules, and a chart that follows all of them at once. A token can't
 * stand where no rule has a place for it; so every row of up to eight tokens that may begin a text
 * is held against the class, each of them with every token more that can't stand behind it.
 */
public final class GrammarTest {
    // What a rule makes comes first: T a text, I an item, A an application, M a mark or none, R its
    // arguments, G one of them, S a sequence, L its items. n is a number, a string or bytes, and
    // w a word.
    private static final String[] RULES = {"T I", "I n", "I S", "I A", "A wMR", "M ", "M %", "R ",
        "R RG", "G n", "G S", "G w", "G (A)", "S {}", "S {L}", "S {L;}", "L I", "L L;I"};
    private static final String TOKENS = "nw%{}();";
    private static final String[] WRITTEN = {"5", "w", "%m", "{", "}", "(", ")", ";"};
    private static final int MOST_TOKENS = 8;

    /** A rule, how much of it stands already, and at which token it began. */
    private static final class Followed {
        final String rule;
        final int done;
        final int begun;

        Followed(String rule, int done, int begun) {
            this.rule = rule;
            this.done = done;
            this.begun = begun;
        }

        /** What stands next in the rule; 0 at its end. */
        char next() {
            return done + 2 < rule.length() ? rule.charAt(done + 2) : 0;
        }

        Followed oneMore() {
            return new Followed(rule, done + 1, begun);
        }

        @Override
        public boolean equals(Object other) {
            return other instanceof Followed f && rule.equals(f.rule) && done == f.done
                && begun == f.begun;
        }

        @Override
        public int hashCode() {
            return Objects.hash(rule, done, begun);
        }
    }

    private static final List<Set<Followed>> CHART = new ArrayList<>();
    private static int read = 0;
    private static int refused = 0;

    public static void main(String[] args) {
        Set<Followed> first = new LinkedHashSet<>();
        first.add(new Followed("T I", 0, 0));
        CHART.add(first);
        complete(first, 0);
        allBehind("", MOST_TOKENS);
        System.out.println(read + " texts read, " + refused + " refused");
        Due.holds("enough texts of both kinds", read > 1000 && refused > 100000);
        Due.close();
    }

    private static void allBehind(String text, int more) {
        boolean whole = CHART.get(CHART.size() - 1).contains(new Followed("T I", 1, 0));
        due(text, whole ? TextTerms.NONE : text.length());
        if (more == 0) {
            return;
        }
        for (int i = 0; i < WRITTEN.length; i++) {
            String longer = text + WRITTEN[i] + " ";
            if (stands(TOKENS.charAt(i))) {
                allBehind(longer, more - 1);
                CHART.remove(CHART.size() - 1);
            } else {
                due(longer, text.length());
                for (String behind : WRITTEN) {
                    due(longer + behind, text.length());
                }
            }
        }
    }

    private static void due(String text, int want) {
        read += want == TextTerms.NONE ? 1 : 0;
        refused += want == TextTerms.NONE ? 0 : 1;
        Due.same("read of <" + text + ">", Due.fed(text).read(), want);
    }

    /** Goes on to the token behind, if some rule that is followed has a place for it. */
    private static boolean stands(char token) {
        Set<Followed> behind = new LinkedHashSet<>();
        for (Followed followed : CHART.get(CHART.size() - 1)) {
            if (followed.next() == token) {
                behind.add(followed.oneMore());
            }
        }
        if (behind.isEmpty()) {
            return false;
        }
        CHART.add(behind);
        complete(behind, CHART.size() - 1);
        return true;
    }

    /** Adds the rules that begin here, and those that go on because one in them has ended here. */
    private static void complete(Set<Followed> here, int place) {
        int before;
        do {
            before = here.size();
            for (Followed followed : new ArrayList<>(here)) {
                if (followed.next() == 0) {
                    goOn(here, followed);
                } else {
                    begin(here, followed.next(), place);
                }
            }
        } while (here.size() > before);
    }

    private static void goOn(Set<Followed> here, Followed ended) {
        for (Followed waiting : new ArrayList<>(CHART.get(ended.begun))) {
            if (waiting.next() == ended.rule.charAt(0)) {
                here.add(waiting.oneMore());
            }
        }
    }

    private static void begin(Set<Followed> here, char made, int place) {
        for (String rule : RULES) {
            if (rule.charAt(0) == made) {
                here.add(new Followed(rule, 0, place));
            }
        }
    }
}
