import java.io.IOException;
import java.lang.reflect.InvocationTargetException;
import java.lang.reflect.Method;
import java.lang.reflect.Modifier;
import java.nio.file.Files;
import java.nio.file.Path;
import java.util.ArrayList;
import java.util.List;
import java.util.Set;
import java.util.TreeSet;
import java.util.regex.Matcher;
import java.util.regex.Pattern;
import java.util.stream.Stream;

/** What README.md says of the class holds: its example's answers, its table of calls, its list of tests. */
final class ReadmeTest {
    private static final Pattern EXAMPLE =
        Pattern.compile("forms\\.(\\w+)\\(([-0-9, ]*)\\); +// (-?\\d+|throws \\w+)(:.*)?");
    private static final Pattern TABLE_ROW = Pattern.compile("\\| `(\\w+)\\(([a-z, ]*)\\)` \\| .* \\|");
    private static final Pattern TEST_FILE = Pattern.compile("src/test/java/(\\w+Test\\.java)");

    private static final Checks CHECKS = new Checks();

    public static void main(String[] args) throws IOException {
        List<String> lines = Files.readAllLines(Path.of("README.md"));
        exampleAnswersSo(lines);
        tableNamesEveryCall(lines);
        listNamesEveryTest(lines);
        CHECKS.finish();
    }

    private static void exampleAnswersSo(List<String> lines) {
        FormFinds forms = new FormFinds();
        Set<String> shown = new TreeSet<>();
        for (String line : lines) {
            if (line.startsWith("forms.")) {
                Matcher m = EXAMPLE.matcher(line);
                CHECKS.same("'" + line + "' tells an answer", "true", "" + m.matches());
                if (m.matches()) {
                    shown.add(m.group(1));
                    CHECKS.same(line, m.group(3).replace(' ', '.'), answerOf(forms, m.group(1), numbersIn(m.group(2))));
                }
            }
        }
        CHECKS.same("many calls are shown", "true", "" + (shown.size() > 15));
    }

    private static List<Object> numbersIn(String text) {
        List<Object> numbers = new ArrayList<>();
        for (String number : text.isEmpty() ? new String[0] : text.split(", ")) {
            numbers.add(Integer.valueOf(number));
        }
        return numbers;
    }

    private static String answerOf(FormFinds forms, String name, List<Object> numbers) {
        for (Method call : FormFinds.class.getDeclaredMethods()) {
            if (call.getName().equals(name) && call.getParameterCount() == numbers.size()) {
                try {
                    return call.invoke(forms, numbers.toArray()).toString();
                } catch (InvocationTargetException e) {
                    return "throws." + e.getCause().getClass().getSimpleName();
                } catch (IllegalAccessException e) {
                    return "no public call";
                }
            }
        }
        return "no such call";
    }

    private static void tableNamesEveryCall(List<String> lines) {
        Set<String> due = new TreeSet<>();
        for (Method call : FormFinds.class.getDeclaredMethods()) {
            if (Modifier.isPublic(call.getModifiers())) {
                due.add(call.getName() + " of " + call.getParameterCount());
            }
        }
        Set<String> told = new TreeSet<>();
        for (String line : lines) {
            Matcher m = TABLE_ROW.matcher(line);
            if (m.matches()) {
                int count = m.group(2).isEmpty() ? 0 : m.group(2).split(", ").length;
                told.add(m.group(1) + " of " + count);
            }
        }
        CHECKS.same("the table of calls", due.toString(), told.toString());
    }

    private static void listNamesEveryTest(List<String> lines) throws IOException {
        Set<String> due = new TreeSet<>();
        try (Stream<Path> files = Files.list(Path.of("src/test/java"))) {
            files.map(file -> file.getFileName().toString()).filter(name -> name.endsWith("Test.java"))
                .forEach(due::add);
        }
        Set<String> told = new TreeSet<>();
        Matcher m = TEST_FILE.matcher(String.join("\n", lines));
        while (m.find()) {
            told.add(m.group(1));
        }
        CHECKS.same("the list of tests", due.toString(), told.toString());
    }
}
