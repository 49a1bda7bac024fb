import java.lang.reflect.Constructor;
import java.lang.reflect.Field;
import java.lang.reflect.Method;
import java.lang.reflect.Modifier;
import java.util.ArrayList;
import java.util.Arrays;
import java.util.Collections;
import java.util.List;

/** "The public face" of the document, and rules 1 and 5 of LANGUAGE.md. */
public final class FaceTest {
    private static final String BAD = "IllegalArgumentException";
    private static final String NOT_YOURS = BAD + " IllegalStateException";
    private static final String NONE = NOT_YOURS + " NoSuchElementException";

    public static void main(String[] args) {
        Class<?> face = ExchangeSystem.class;
        Due.is("public and final", face.getModifiers(), Modifier.PUBLIC | Modifier.FINAL);
        Due.same("the methods", methods(face), String.join("\n", sorted(
            "int type(long) " + BAD + " UnsupportedOperationException",
            "int contract(int) " + BAD,
            "int start() UnsupportedOperationException",
            "int kill(int) " + NOT_YOURS,
            "int block(int int) " + NOT_YOURS + " UnsupportedOperationException",
            "void free(int int) " + NOT_YOURS,
            "int read(int int int) " + NONE,
            "void write(int int int int) " + NONE,
            "int open(int int int) " + NONE + " UnsupportedOperationException",
            "void say(int int int int) " + NONE,
            "int hear(int int) " + NONE,
            "int choose(int int) " + NONE,
            "int close(int int) " + NOT_YOURS,
            "int ofBlock(int int) " + BAD,
            "int ofEnd(int int) " + BAD,
            "int count(int) ")));
        constructorsAndFields(face);
        noPrivateNamesakes(face);
        Due.end();
    }

    private static List<String> sorted(String... lines) {
        List<String> list = new ArrayList<>(Arrays.asList(lines));
        Collections.sort(list);
        return list;
    }

    private static String methods(Class<?> face) {
        List<String> lines = new ArrayList<>();
        for (Method method : face.getDeclaredMethods()) {
            if (!Modifier.isPrivate(method.getModifiers())) {
                Due.is(method + " has these modifiers", method.getModifiers(), Modifier.PUBLIC);
                lines.add(method.getReturnType() + " " + method.getName()
                    + "(" + names(method.getParameterTypes()) + ") " + names(method.getExceptionTypes()));
            }
        }
        Collections.sort(lines);
        return String.join("\n", lines);
    }

    private static String names(Class<?>[] types) {
        List<String> names = new ArrayList<>();
        for (Class<?> type : types) {
            names.add(type.getSimpleName());
        }
        return String.join(" ", names);
    }

    private static void constructorsAndFields(Class<?> face) {
        Constructor<?>[] constructors = face.getDeclaredConstructors();
        Due.is("constructors", constructors.length, 1);
        Due.is("its parameters", constructors[0].getParameterCount(), 0);
        Due.is("its modifiers", constructors[0].getModifiers(), Modifier.PUBLIC);
        for (Field field : face.getDeclaredFields()) {
            int modifiers = field.getModifiers();
            if (!Modifier.isPrivate(modifiers)) {
                Due.report(field + " is not private");
            }
            if (Modifier.isStatic(modifiers) && !Modifier.isFinal(modifiers)) {
                Due.report(field + " is static and not final");
            }
        }
        for (Class<?> inner : face.getDeclaredClasses()) {
            if (!Modifier.isStatic(inner.getModifiers()) || Modifier.isPublic(inner.getModifiers())) {
                Due.report(inner + " is public or not static");
            }
        }
    }

    private static void noPrivateNamesakes(Class<?> face) {
        for (Method one : face.getDeclaredMethods()) {
            for (Method other : face.getDeclaredMethods()) {
                boolean namesakes = one.getName().equals(other.getName());
                if (namesakes && Modifier.isPrivate(one.getModifiers()) && Modifier.isPublic(other.getModifiers())) {
                    Due.report(one + " bears the name of a public method");
                }
            }
        }
    }
}
