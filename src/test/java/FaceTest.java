import java.lang.reflect.Constructor;
import java.lang.reflect.Field;
import java.lang.reflect.Method;
import java.lang.reflect.Modifier;
import java.util.ArrayList;
import java.util.List;

/** "The public face" of the document, and rules 1 and 5 of LANGUAGE.md. */
public final class FaceTest {
    private static final Class<?> FACE = ExchangeSystem.class;
    private static final String[] METHODS = {
        "int type(long) IllegalArgumentException UnsupportedOperationException",
        "int contract(int) IllegalArgumentException",
        "int start() UnsupportedOperationException",
        "int kill(int) IllegalArgumentException IllegalStateException",
        "int block(int int) IllegalArgumentException IllegalStateException UnsupportedOperationException",
        "void free(int int) IllegalArgumentException IllegalStateException",
        "int read(int int int) IllegalArgumentException IllegalStateException NoSuchElementException",
        "void write(int int int int) IllegalArgumentException IllegalStateException NoSuchElementException",
        "int open(int int int) IllegalArgumentException IllegalStateException NoSuchElementException"
            + " UnsupportedOperationException",
        "void say(int int int int) IllegalArgumentException IllegalStateException NoSuchElementException",
        "int hear(int int) IllegalArgumentException IllegalStateException NoSuchElementException",
        "int choose(int int) IllegalArgumentException IllegalStateException NoSuchElementException",
        "int close(int int) IllegalArgumentException IllegalStateException",
        "int ofBlock(int int) IllegalArgumentException",
        "int ofEnd(int int) IllegalArgumentException",
        "int count(int) ",
    };

    public static void main(String[] args) {
        Due.is("public and final", FACE.getModifiers(), Modifier.PUBLIC | Modifier.FINAL);
        Due.sentence("The methods of the document and no other.", FaceTest::methods);
        Due.sentence("The constructor of the document and no other.", FaceTest::constructors);
        Due.sentence("No field that others see, no static state.", FaceTest::fields);
        Due.sentence("The classes inside are private or package-visible.", FaceTest::classesInside);
        Due.sentence("No private method bears the name of a public one.", FaceTest::noPrivateNamesakes);
        Due.end();
    }

    private static void methods() {
        int found = 0;
        for (Method method : FACE.getDeclaredMethods()) {
            if (!Modifier.isPrivate(method.getModifiers())) {
                Due.is(method + " has these modifiers", method.getModifiers(), Modifier.PUBLIC);
                found += isOfTheDocument(method) ? 1 : 0;
            }
        }
        Due.is("methods of the document", found, METHODS.length);
    }

    private static boolean isOfTheDocument(Method method) {
        String head = method.getReturnType() + " " + method.getName() + "(" + parameters(method) + ") ";
        for (String line : METHODS) {
            if (line.startsWith(head)) {
                Due.same("what " + method.getName() + " may throw", exceptions(method), line.substring(head.length()));
                return true;
            }
        }
        Due.report(head + "is not in the document");
        return false;
    }

    private static String parameters(Method method) {
        return names(method.getParameterTypes());
    }

    private static String exceptions(Method method) {
        return names(method.getExceptionTypes());
    }

    private static String names(Class<?>[] types) {
        List<String> names = new ArrayList<>();
        for (Class<?> type : types) {
            names.add(type.getSimpleName());
        }
        return String.join(" ", names);
    }

    private static void constructors() {
        Constructor<?>[] constructors = FACE.getDeclaredConstructors();
        Due.is("constructors", constructors.length, 1);
        Due.is("its parameters", constructors[0].getParameterCount(), 0);
        Due.is("its modifiers", constructors[0].getModifiers(), Modifier.PUBLIC);
    }

    private static void fields() {
        for (Field field : FACE.getDeclaredFields()) {
            int modifiers = field.getModifiers();
            if (!Modifier.isPrivate(modifiers)) {
                Due.report(field + " is not private");
            }
            if (Modifier.isStatic(modifiers) && !Modifier.isFinal(modifiers)) {
                Due.report(field + " is static and not final");
            }
        }
    }

    private static void classesInside() {
        for (Class<?> inner : FACE.getDeclaredClasses()) {
            int modifiers = inner.getModifiers();
            if (Modifier.isPublic(modifiers) || Modifier.isProtected(modifiers) || !Modifier.isStatic(modifiers)) {
                Due.report(inner + " is public, protected or not static");
            }
        }
    }

    private static void noPrivateNamesakes() {
        for (Method one : FACE.getDeclaredMethods()) {
            for (Method other : FACE.getDeclaredMethods()) {
                boolean namesakes = one.getName().equals(other.getName());
                if (namesakes && Modifier.isPrivate(one.getModifiers()) && Modifier.isPublic(other.getModifiers())) {
                    Due.report(one + " bears the name of a public method");
                }
            }
        }
    }
}
