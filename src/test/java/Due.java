import java.lang.annotation.ElementType;
import java.lang.annotation.Retention;
import java.lang.annotation.RetentionPolicy;
import java.lang.annotation.Target;
import java.lang.reflect.InvocationTargetException;
import java.lang.reflect.Method;
import java.nio.charset.StandardCharsets;
import java.util.Arrays;
import java.util.Comparator;

/** What the tests share: objects with a text fed to them, and answers held against what is due. */
final class Due {
    /** The words of the document that a test holds the class to. */
    @Retention(RetentionPolicy.RUNTIME)
    @Target(ElementType.METHOD)
    @interface Says {
        String value();
    }

    /** Numbers of terms that no text has, the ones at which arithmetic would wrap among them. */
    static final int[] NO_TERMS = {-1, -2, 4096, 16384, Integer.MAX_VALUE, Integer.MIN_VALUE};

    private static int asked = 0;
    private static int wrong = 0;
    private static String test = "";

    private Due() {
    }

    static void same(String call, long got, long want) {
        asked++;
        if (got != want) {
            wrong++;
            System.out.println(test + call + " answered " + got + ", due is " + want);
        }
    }

    static void holds(String what, boolean isSo) {
        same(what, isSo ? 1 : 0, 1);
    }

    static byte[] bytes(String text) {
        return text.getBytes(StandardCharsets.ISO_8859_1);
    }

    /** Feeds the bytes behind those that are there, filled up with blanks that end() takes off. */
    static void feed(TextTerms x, byte[] bytes, int before) {
        int[] five = new int[5];
        for (int at = 0; at < bytes.length; at += 20) {
            for (int i = 0; i < 20; i++) {
                int value = at + i < bytes.length ? bytes[at + i] & 255 : 32;
                five[i / 4] = five[i / 4] << 8 | value;
            }
            x.feed(five[0], five[1], five[2], five[3], five[4]);
        }
        x.end(before + bytes.length);
    }

    static TextTerms fed(String text) {
        TextTerms x = new TextTerms();
        feed(x, bytes(text), 0);
        return x;
    }

    /** An object that has read the text, which must not be refused. */
    static TextTerms read(String text) {
        TextTerms x = fed(text);
        same("read of <" + text + ">", x.read(), TextTerms.NONE);
        return x;
    }

    static void refused(String text, int place) {
        TextTerms x = fed(text);
        same("read of <" + text + ">", x.read(), place);
        same("count behind refused <" + text + ">", x.count(), 0);
        same("kind(0) behind refused <" + text + ">", x.kind(0), TextTerms.NONE);
    }

    /** That all calls about a term answer as when there is no such term. */
    static void noTerm(TextTerms x, int t) {
        same("kind(" + t + ")", x.kind(t), -1);
        same("parent(" + t + ")", x.parent(t), -1);
        same("arguments(" + t + ")", x.arguments(t), -1);
        same("argument(" + t + ", 0)", x.argument(t, 0), -1);
        same("size(" + t + ")", x.size(t), -1);
        same("word(" + t + ")", x.word(t), -1);
        same("begins(" + t + ")", x.begins(t), -1);
        same("ends(" + t + ")", x.ends(t), -1);
        same("mark(" + t + ", 0)", x.mark(t, 0), -1);
        same("length(" + t + ")", x.length(t), -1);
        same("part(" + t + ", 0)", x.part(t, 0), -1);
        holds("isNegative(" + t + ") is false", !x.isNegative(t));
    }

    static boolean feedThrows(TextTerms x) {
        try {
            x.feed(1, 2, 3, 4, 5);
            return false;
        } catch (IllegalStateException e) {
            return true;
        }
    }

    static boolean endThrows(TextTerms x, int n) {
        try {
            x.end(n);
            return false;
        } catch (IllegalArgumentException e) {
            return true;
        }
    }

    /** Runs every test of a class, by name, each of which must ask something, and closes. */
    static void runAll(Class<?> tests) {
        Method[] methods = tests.getDeclaredMethods();
        Arrays.sort(methods, Comparator.comparing(Method::getName));
        for (Method method : methods) {
            Says says = method.getAnnotation(Says.class);
            boolean isTest = method.getName().startsWith("promise");
            holds(method.getName() + " is a test just if it names a sentence",
                isTest == (says != null));
            if (isTest && says != null) {
                test = method.getName() + " (\"" + says.value() + "\"): ";
                run(method);
                test = "";
            }
        }
        close();
    }

    private static void run(Method method) {
        int before = asked;
        int wrongBefore = wrong;
        try {
            method.setAccessible(true);
            method.invoke(null);
        } catch (InvocationTargetException e) {
            holds("no exception, but there was " + e.getCause(), false);
        } catch (IllegalAccessException e) {
            holds("the test can be run", false);
        }
        holds("the test asks something", asked > before);
        System.out.println((wrong == wrongBefore ? "  ok " : "  WRONG ") + method.getName());
    }

    static void close() {
        System.out.println(asked + " answers, " + wrong + " of them wrong");
        if (asked == 0 || wrong != 0) {
            System.exit(1);
        }
    }
}
