import java.io.IOException;
import java.lang.reflect.Constructor;
import java.lang.reflect.Field;
import java.lang.reflect.Method;
import java.lang.reflect.Modifier;
import java.nio.file.Files;
import java.nio.file.Path;
import java.util.Arrays;
import java.util.List;
import java.util.TreeSet;
import java.util.regex.Matcher;
import java.util.regex.Pattern;

/** 'The public face' of the document, and the rules of LANGUAGE.md that can be seen from outside. */
public final class FaceTest {
    private static final Path DOCUMENT = Path.of("../shared/DOC.md");

    /** What the document writes of a method: its type, its name, its parameters, what it throws. */
    private static final Pattern METHOD =
            Pattern.compile("(void|int|boolean) (\\w+)\\(([^)]*)\\)(?: throws ([\\w, ]+))?");

    private static final String[] FORBIDDEN = {
        "->", "::", "synchronized", "assert ", "finally", "catch", "Exact", "new Random", "java.io",
        "java.time", "currentTimeMillis", "nanoTime", "double", "float", "while (true)", "for (;;)",
        "import ", "package ",
    };

    public static void main(String[] args) throws IOException {
        Class<?> face = AmountPlanner.class;
        String document = Files.readString(DOCUMENT);
        TreeSet<String> due = faceOf(document);
        Check.due("the document's methods", 14, due::size);
        Check.due("each promise has its own of them", due, () -> promisesOf(document));
        Check.due("public and final", Modifier.PUBLIC | Modifier.FINAL,
                () -> face.getModifiers() & ~Modifier.SYNCHRONIZED);
        Check.due("the methods", due, () -> methods(face));
        Check.due("one constructor, public, as in the document", "[public AmountPlanner()]",
                () -> Arrays.toString(face.getDeclaredConstructors()));
        Check.due("the methods are those of an object", 0, () -> staticMethods(face));
        Check.due("fields that are not private", 0, () -> openFields(face));
        Check.due("static fields that are not final", 0, () -> looseStatics(face));
        TreeSet<String> names = new TreeSet<>();
        due.forEach(text -> names.add(text.replaceAll("^\\w+ (\\w+)\\(.*", "$1")));
        Check.due("methods with a name of the face, private ones too", due.size(),
                () -> sameNames(face, names).size());
        for (Class<?> inside : face.getDeclaredClasses()) {
            lookInside(inside, names);
        }
        String source = Files.readString(Path.of("src/main/java/AmountPlanner.java"));
        for (String word : FORBIDDEN) {
            Check.due("the program uses " + word, -1, () -> source.indexOf(word));
        }
        Check.close();
    }

    private static void lookInside(Class<?> inside, TreeSet<String> names) {
        Check.due(inside + " is static", true, () -> Modifier.isStatic(inside.getModifiers()));
        Check.due(inside + " is private", true, () -> Modifier.isPrivate(inside.getModifiers()));
        Check.due(inside + " has static state", 0, () -> looseStatics(inside));
        Check.due(inside + " uses a name of the face", "[]", () -> sameNames(inside, names));
        for (Constructor<?> constructor : inside.getDeclaredConstructors()) {
            Check.due(inside + " parameters", true, () -> constructor.getParameterCount() <= 7);
        }
        for (Method method : inside.getDeclaredMethods()) {
            Check.due(method + " parameters", true, () -> method.getParameterCount() <= 7);
        }
    }

    private static TreeSet<String> faceOf(String document) {
        int from = document.indexOf("public final class AmountPlanner {");
        int to = document.indexOf("```", from);
        TreeSet<String> texts = new TreeSet<>();
        Matcher matcher = METHOD.matcher(document.substring(from, to));
        while (matcher.find()) {
            texts.add(textOf(matcher));
        }
        return texts;
    }

    /** What the promises begin with, but for that of the constructor. */
    private static TreeSet<String> promisesOf(String document) {
        TreeSet<String> texts = new TreeSet<>();
        Matcher matcher = METHOD.matcher(document.substring(document.indexOf("## Promise 1:")));
        while (matcher.find()) {
            texts.add(textOf(matcher));
        }
        return texts;
    }

    private static String textOf(Matcher matcher) {
        String parameters = matcher.group(3).replaceAll("(\\w+) \\w+", "$1").replace(" ", "");
        String exceptions = matcher.group(4) == null ? "" : matcher.group(4).replace(" ", "");
        return matcher.group(1) + " " + matcher.group(2) + "(" + parameters + ") " + exceptions;
    }

    private static TreeSet<String> methods(Class<?> face) {
        TreeSet<String> texts = new TreeSet<>();
        for (Method method : face.getDeclaredMethods()) {
            if (!Modifier.isPrivate(method.getModifiers())) {
                texts.add(method.getReturnType() + " " + method.getName() + "("
                        + names(method.getParameterTypes()) + ") " + names(method.getExceptionTypes()));
            }
        }
        return texts;
    }

    private static String names(Class<?>[] types) {
        return String.join(",", Arrays.stream(types).map(Class::getSimpleName).toList());
    }

    private static List<String> sameNames(Class<?> type, TreeSet<String> names) {
        return Arrays.stream(type.getDeclaredMethods()).map(Method::getName).filter(names::contains).toList();
    }

    private static long staticMethods(Class<?> face) {
        return Arrays.stream(face.getDeclaredMethods())
                .filter(m -> Modifier.isPublic(m.getModifiers()) && Modifier.isStatic(m.getModifiers())).count();
    }

    private static long openFields(Class<?> type) {
        return Arrays.stream(type.getDeclaredFields()).filter(f -> !Modifier.isPrivate(f.getModifiers())).count();
    }

    private static long looseStatics(Class<?> type) {
        long loose = 0;
        for (Field field : type.getDeclaredFields()) {
            int modifiers = field.getModifiers();
            loose += Modifier.isStatic(modifiers) && !Modifier.isFinal(modifiers) ? 1 : 0;
        }
        return loose;
    }
}
