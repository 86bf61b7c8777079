import java.lang.reflect.Constructor;
import java.lang.reflect.Field;
import java.lang.reflect.Method;
import java.lang.reflect.Modifier;
import java.util.Arrays;
import java.util.Set;
import java.util.TreeSet;

/** The public face: just what the document shows, and nothing else that others could see. */
public final class FaceTest {
    private static final String[] METHODS = {
        "void feed(int, int, int, int, int) IllegalStateException",
        "int end(int) IllegalArgumentException", "int change(int, int)", "int read()",
        "int count()", "int kind(int)", "int parent(int)", "int arguments(int)",
        "int argument(int, int)", "int size(int)", "int word(int)", "int begins(int)",
        "int ends(int)", "int mark(int, int)", "int length(int)", "int part(int, int)",
        "boolean isNegative(int)"};

    public static void main(String[] args) {
        Class<?> face = TextTerms.class;
        Due.holds("the class is public and final",
            Modifier.isPublic(face.getModifiers()) && Modifier.isFinal(face.getModifiers()));
        methods(face);
        fields(face);
        Constructor<?>[] constructors = face.getDeclaredConstructors();
        Due.same("constructors", constructors.length, 1);
        Due.holds("it is public and takes nothing", Modifier.isPublic(
            constructors[0].getModifiers()) && constructors[0].getParameterCount() == 0);
        for (Class<?> inside : face.getDeclaredClasses()) {
            Due.holds(inside + " is static", Modifier.isStatic(inside.getModifiers()));
            Due.holds(inside + " is not public", !Modifier.isPublic(inside.getModifiers()));
        }
        Due.close();
    }

    private static void methods(Class<?> face) {
        Set<String> found = new TreeSet<>();
        Set<String> names = new TreeSet<>();
        for (Method method : face.getDeclaredMethods()) {
            Due.holds(method + " has a name of its own", names.add(method.getName()));
            if (Modifier.isPrivate(method.getModifiers())) {
                continue;
            }
            Due.same(method + ": public and no more", method.getModifiers(), Modifier.PUBLIC);
            found.add(shown(method));
        }
        Set<String> want = new TreeSet<>(Arrays.asList(METHODS));
        Due.holds("methods " + found + " are " + want, found.equals(want));
    }

    private static String shown(Method method) {
        StringBuilder shown = new StringBuilder();
        shown.append(method.getReturnType().getName()).append(' ').append(method.getName());
        String parameters = Arrays.toString(method.getParameterTypes());
        shown.append('(').append(parameters, 1, parameters.length() - 1).append(')');
        for (Class<?> thrown : method.getExceptionTypes()) {
            shown.append(' ').append(thrown.getSimpleName());
        }
        return shown.toString();
    }

    private static void fields(Class<?> face) {
        for (Field field : face.getDeclaredFields()) {
            int modifiers = field.getModifiers();
            if (field.getName().equals("NONE")) {
                Due.holds("NONE is a public constant", field.getType() == int.class
                    && modifiers == (Modifier.PUBLIC | Modifier.STATIC | Modifier.FINAL));
            } else {
                Due.holds(field + " is private", Modifier.isPrivate(modifiers));
            }
            Due.holds(field + " is final if it is static",
                !Modifier.isStatic(modifiers) || Modifier.isFinal(modifiers));
        }
        Due.same("NONE", TextTerms.NONE, -1);
    }
}
