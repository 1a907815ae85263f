import java.io.File;
import java.io.IOException;
import java.lang.reflect.InvocationTargetException;
import java.lang.reflect.Method;
import java.lang.reflect.Modifier;
import java.nio.file.Files;
import java.nio.file.Path;
import java.util.ArrayList;
import java.util.Arrays;
import java.util.List;
import java.util.TreeSet;
import java.util.regex.Matcher;
import java.util.regex.Pattern;

/** That what README.md says of the class and of its tests is so. */
public final class ReadmeTest {
    private static final Pattern EXAMPLE = Pattern.compile("```java\\n(.*?)```", Pattern.DOTALL);
    private static final Pattern CALL = Pattern.compile("planner\\.(\\w+)\\((.*?)\\);(?:\\s*// (.*))?");
    private static final Pattern ROW = Pattern.compile("^\\| `(\\w+)\\((.*?)\\)` \\|.*\\| (.*?) ?\\|$", Pattern.MULTILINE);
    private static final String MAKE = "AmountPlanner planner = new AmountPlanner();";

    public static void main(String[] args) throws IOException {
        String readme = Files.readString(Path.of("README.md"));
        examples(readme);
        allCalls(readme);
        files(readme);
        Check.close();
    }

    private static void examples(String readme) {
        Matcher matcher = EXAMPLE.matcher(readme);
        TreeSet<String> used = new TreeSet<>();
        while (matcher.find()) {
            String[] lines = matcher.group(1).split("\n");
            Check.due("the first line of an example", MAKE, () -> lines[0]);
            AmountPlanner planner = new AmountPlanner();
            for (int k = 1; k < lines.length; k++) {
                used.add(call(planner, lines[k]));
            }
        }
        Check.due("the methods that are used in an example", names(), () -> used);
    }

    /** Makes the call of a line: its comment begins with the answer, unless there is none. */
    private static String call(AmountPlanner planner, String line) {
        Matcher matcher = CALL.matcher(line);
        if (!matcher.matches()) {
            Check.due(line, "a call", () -> "none");
            return line;
        }
        String name = matcher.group(1);
        String comment = matcher.group(3) == null ? "" : matcher.group(3);
        String got = answer(planner, name, matcher.group(2).split(", "));
        if (got.equals("null")) {
            Check.due(line, false, () -> comment.startsWith("throws."));
        } else {
            Check.due(line, comment.split(":")[0], () -> got);
        }
        return name;
    }

    private static String answer(AmountPlanner planner, String name, String[] written) {
        Method method = methods().stream().filter(m -> m.getName().equals(name)).findFirst().orElseThrow();
        Class<?>[] types = method.getParameterTypes();
        Object[] arguments = new Object[types.length];
        for (int k = 0; k < types.length; k++) {
            arguments[k] = types[k] == boolean.class ? (Object) Boolean.valueOf(written[k]) : Integer.valueOf(written[k]);
        }
        try {
            return String.valueOf(method.invoke(planner, arguments));
        } catch (InvocationTargetException e) {
            return "throws." + e.getCause().getClass().getSimpleName();
        } catch (IllegalAccessException e) {
            throw new IllegalStateException(e);
        }
    }

    /** The table has a row for each method, with as many parameters, and an answer if there is one. */
    private static void allCalls(String readme) {
        List<String> told = new ArrayList<>();
        Matcher matcher = ROW.matcher(readme);
        while (matcher.find()) {
            int parameters = matcher.group(2).isEmpty() ? 0 : matcher.group(2).split(", ").length;
            told.add(matcher.group(1) + " " + parameters + (matcher.group(3).isEmpty() ? "" : " answers"));
        }
        TreeSet<String> due = new TreeSet<>();
        for (Method method : methods()) {
            due.add(method.getName() + " " + method.getParameterCount()
                    + (method.getReturnType() == void.class ? "" : " answers"));
        }
        Check.due("the rows of the table", due.size(), told::size);
        Check.due("the rows of the table", due, () -> new TreeSet<>(told));
    }

    /** Each file of src/test/java is named, and what is named as a test is there. */
    private static void files(String readme) {
        TreeSet<String> there = new TreeSet<>();
        for (String file : new File("src/test/java").list()) {
            String name = file.replace(".java", "");
            there.add(name);
            Check.due(name + " is named", true, () -> readme.contains("`" + name + "`"));
        }
        Matcher matcher = Pattern.compile("`(\\w+Test)`").matcher(readme);
        while (matcher.find()) {
            String name = matcher.group(1);
            Check.due(name + " is there", true, () -> there.contains(name));
        }
        Check.due(".ci/run is there", true, () -> readme.contains("\n.ci/run\n") && new File(".ci/run").canExecute());
        Check.due("the program is there", true, () -> new File("src/main/java/AmountPlanner.java").isFile());
    }

    private static List<Method> methods() {
        return Arrays.stream(AmountPlanner.class.getDeclaredMethods())
                .filter(m -> Modifier.isPublic(m.getModifiers())).toList();
    }

    private static TreeSet<String> names() {
        TreeSet<String> names = new TreeSet<>();
        methods().forEach(m -> names.add(m.getName()));
        return names;
    }
}
