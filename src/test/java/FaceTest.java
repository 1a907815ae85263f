import java.io.IOException;
import java.lang.reflect.Constructor;
import java.lang.reflect.Field;
import java.lang.reflect.Method;
import java.lang.reflect.Modifier;
import java.nio.file.Files;
import java.nio.file.Path;
import java.util.Arrays;
import java.util.TreeSet;

/** The public face of the document, and the rules of LANGUAGE.md that can be seen from outside. */
public final class FaceTest {
    private static final String[] FACE = {
        "void start(int) IllegalArgumentException",
        "void amount(int,int,int,boolean) IndexOutOfBoundsException,IllegalArgumentException",
        "void cost(int,int) IndexOutOfBoundsException,IllegalArgumentException",
        "int limit(int,int,int,int,int) IllegalArgumentException,IllegalStateException",
        "int drop(int) IndexOutOfBoundsException",
        "boolean solve(boolean) ",
        "int total(int) IllegalArgumentException,IllegalStateException",
        "int plan(int,int) IndexOutOfBoundsException,IllegalArgumentException,IllegalStateException",
        "boolean keeps(int,int,int,int,int) IllegalArgumentException",
        "void fork(int,int,int,int,int) IndexOutOfBoundsException,IllegalArgumentException",
        "void end(int,int,int,int,int,int,int,int) IndexOutOfBoundsException,IllegalArgumentException",
        "void clear(int) IndexOutOfBoundsException",
        "boolean sound(int,int) IllegalArgumentException",
        "boolean prove() IllegalStateException",
    };

    private static final String[] FORBIDDEN = {
        "->", "::", "synchronized", "assert ", "finally", "catch", "Exact", "new Random", "java.io",
        "java.time", "currentTimeMillis", "nanoTime", "double", "float", "while (true)", "for (;;)",
        "import ", "package ",
    };

    public static void main(String[] args) throws IOException {
        Class<?> face = AmountPlanner.class;
        Check.due("public and final", Modifier.PUBLIC | Modifier.FINAL,
                () -> face.getModifiers() & ~Modifier.SYNCHRONIZED);
        Check.due("the methods", new TreeSet<>(Arrays.asList(FACE)), () -> methods(face));
        Check.due("one constructor, public", "[public AmountPlanner()]",
                () -> Arrays.toString(face.getDeclaredConstructors()));
        Check.due("methods with a name of the face, private ones too", FACE.length,
                () -> Arrays.stream(face.getDeclaredMethods()).filter(FaceTest::hasNameOfFace).count());
        Check.due("fields that are not private", 0, () -> openFields(face));
        Check.due("static fields that are not final", 0, () -> looseStatics(face));
        for (Class<?> inside : face.getDeclaredClasses()) {
            Check.due(inside + " is static", true, () -> Modifier.isStatic(inside.getModifiers()));
            Check.due(inside + " is private", true, () -> Modifier.isPrivate(inside.getModifiers()));
            Check.due(inside + " has static state", 0, () -> looseStatics(inside));
            Check.due(inside + " uses a name of the face", "[]", () -> namesOfFace(inside));
            for (Constructor<?> constructor : inside.getDeclaredConstructors()) {
                Check.due(inside + " parameters", true, () -> constructor.getParameterCount() <= 7);
            }
        }
        String source = Files.readString(Path.of("src/main/java/AmountPlanner.java"));
        for (String word : FORBIDDEN) {
            Check.due("the program uses " + word, -1, () -> source.indexOf(word));
        }
        Check.close();
    }

    private static TreeSet<String> methods(Class<?> face) {
        TreeSet<String> texts = new TreeSet<>();
        for (Method method : face.getDeclaredMethods()) {
            if (!Modifier.isPrivate(method.getModifiers())) {
                texts.add(method.getReturnType() + " " + method.getName() + "("
                        + names(method.getParameterTypes()) + ") " + names(method.getExceptionTypes()));
            }
        }
        return texts;
    }

    private static String names(Class<?>[] types) {
        return String.join(",", Arrays.stream(types).map(Class::getSimpleName).toList());
    }

    private static TreeSet<String> namesOfFace(Class<?> inside) {
        TreeSet<String> same = new TreeSet<>();
        for (Method method : inside.getDeclaredMethods()) {
            if (hasNameOfFace(method)) {
                same.add(method.getName());
            }
        }
        return same;
    }

    private static boolean hasNameOfFace(Method method) {
        return Arrays.stream(FACE).anyMatch(text -> text.contains(" " + method.getName() + "("));
    }

    private static long openFields(Class<?> type) {
        return Arrays.stream(type.getDeclaredFields()).filter(f -> !Modifier.isPrivate(f.getModifiers())).count();
    }

    private static long looseStatics(Class<?> type) {
        long loose = 0;
        for (Field field : type.getDeclaredFields()) {
            int modifiers = field.getModifiers();
            loose += Modifier.isStatic(modifiers) && !Modifier.isFinal(modifiers) ? 1 : 0;
        }
        return loose;
    }
}
