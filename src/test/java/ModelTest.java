import java.util.Random;

/** Holds every answer about a text against the model's, on texts made at random. */
public final class ModelTest {
    // An object is promised for 512 calls: a new one takes over before that.
    private static final int CALLS_OF_ONE = 400;

    private static TextTerms object;
    private static String textOfObject;
    private static int calls;

    public static void main(String[] args) {
        Random random = new Random(20261115);
        int read = 0;
        int refused = 0;
        for (int round = 0; round < 20000; round++) {
            if (compare(SomeTexts.any(random)) < 0) {
                read++;
            } else {
                refused++;
            }
        }
        System.out.println(read + " texts read, " + refused + " refused");
        Due.holds("enough texts of both kinds", read > 2000 && refused > 2000);
        Due.close();
    }

    /** The object to ask, made anew before it has answered too many calls. */
    private static TextTerms asked() {
        if (object == null || calls >= CALLS_OF_ONE) {
            object = Due.fed(textOfObject);
            calls = textOfObject.length() / 20 + 2;
            object.read();
        }
        calls++;
        return object;
    }

    private static int compare(String text) {
        Model model = new Model(text);
        int place = model.read();
        object = null;
        textOfObject = text;
        String of = " of <" + text + ">";
        Due.same("read" + of, Due.fed(text).read(), place);
        Due.same("count" + of, asked().count(), model.count());
        for (int t = -1; t <= model.count(); t++) {
            compareTerm(model, t, "(" + t + ")" + of);
        }
        return place;
    }

    private static void compareTerm(Model model, int t, String of) {
        Due.same("kind" + of, asked().kind(t), model.kind(t));
        Due.same("parent" + of, asked().parent(t), model.parent(t));
        Due.same("begins" + of, asked().begins(t), model.begins(t));
        Due.same("ends" + of, asked().ends(t), model.ends(t));
        Due.same("size" + of, asked().size(t), model.size(t));
        Due.same("word" + of, asked().word(t), model.word(t));
        Due.same("arguments" + of, asked().arguments(t), model.arguments(t));
        for (int i = -1; i <= Math.max(0, model.arguments(t)); i++) {
            Due.same("argument " + i + of, asked().argument(t, i), model.argument(t, i));
        }
        for (int i = -1; i < 0 || model.mark(t, i - 1) >= 0; i++) {
            Due.same("mark " + i + of, asked().mark(t, i), model.mark(t, i));
        }
        int length = model.length(t);
        Due.same("length" + of, asked().length(t), length);
        for (int i = -1; i <= Math.max(0, length); i += length > 70 ? 13 : 1) {
            Due.same("part " + i + of, asked().part(t, i), model.part(t, i));
        }
        Due.holds("isNegative" + of, asked().isNegative(t) == model.isNegative(t));
    }
}
