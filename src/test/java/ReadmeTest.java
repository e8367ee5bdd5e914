import java.io.File;
import java.io.IOException;
import java.lang.reflect.InvocationTargetException;
import java.lang.reflect.Method;
import java.lang.reflect.Modifier;
import java.nio.file.Files;
import java.nio.file.Path;
import java.util.ArrayList;
import java.util.List;
import java.util.NoSuchElementException;
import java.util.TreeSet;
import java.util.regex.Matcher;
import java.util.regex.Pattern;

/** README.md, read from the project's directory: its examples answer as it tells, it names all calls and all tests. */
public final class ReadmeTest {
    private static final Pattern CALL = Pattern.compile("(\\w+)\\(([^)]*)\\)");
    private static final Pattern JAVA_CALL = Pattern.compile("desk\\.(\\w+\\([^)]*\\)); *// ([^ ,]+).*");
    private static final Pattern LINES_TOLD = Pattern.compile("which answers (\\d+) then");

    private ReadmeTest() {
    }

    public static void main(String[] args) throws IOException, ReflectiveOperationException {
        String page = Files.readString(Path.of("README.md"));
        javaExample(page);
        helper(page);
        faults(page);
        calls(page);
        face(page);
        tests(page);
        Probe.finish();
    }

    private static void javaExample(String page) throws ReflectiveOperationException {
        FreightShare desk = new FreightShare();
        List<String> lines = block(page, "java", "FreightShare desk = new FreightShare();\n").lines().skip(1).toList();
        for (String line : lines) {
            Matcher found = JAVA_CALL.matcher(line);
            if (found.matches()) {
                check(desk, found.group(1), found.group(2));
            } else {
                Probe.due("a line with a call and its answer: " + line, false, true);
            }
        }
    }

    private static void helper(String page) throws IOException {
        String code = Files.readString(Path.of("src/test/java/Example.java"));
        Probe.due("Example.java stands in README.md", block(page, "java", "final class Example").equals(code), true);
    }

    private static void faults(String page) {
        for (String[] row : rows(page, "| text | text() | fault() | why |")) {
            FreightShare desk = new FreightShare();
            String text = unquoted(row[0]);
            Probe.due("text() of " + text, Example.tell(desk, text), Integer.parseInt(row[1]));
            Probe.due("fault() of " + text, desk.fault(), Integer.parseInt(row[2]));
        }
    }

    private static void calls(String page) throws ReflectiveOperationException {
        FreightShare desk = new FreightShare();
        Matcher told = LINES_TOLD.matcher(page);
        Probe.due("how many lines are told", told.find(), true);
        Probe.due("lines", Example.tell(desk, block(page, "text", "desk")), Integer.parseInt(told.group(1)));
        for (String[] row : rows(page, "| call | answer | that is |")) {
            check(desk, unquoted(row[0]), row[1]);
        }
    }

    private static void face(String page) {
        TreeSet<String> want = new TreeSet<>();
        for (Method method : FreightShare.class.getDeclaredMethods()) {
            if (Modifier.isPublic(method.getModifiers())) {
                want.add(method.getName() + " of " + method.getParameterCount());
            }
        }
        TreeSet<String> got = new TreeSet<>();
        for (String[] row : rows(page, "| call | answers | where there is nothing such |")) {
            Matcher call = CALL.matcher(unquoted(row[0]));
            got.add(call.matches() ? call.group(1) + " of " + arguments(call.group(2)).length : row[0]);
        }
        Probe.due("calls named " + got + ", due " + want, got.equals(want), true);
    }

    private static void tests(String page) {
        TreeSet<String> got = new TreeSet<>();
        rows(page, "| test | promises |").forEach(row -> got.add(row[0]));
        rows(page, "| test | sentences of |").forEach(row -> got.add(row[0]));
        TreeSet<String> want = new TreeSet<>();
        for (String file : new File("src/test/java").list((directory, name) -> name.endsWith("Test.java"))) {
            want.add(file.replace(".java", ""));
        }
        Probe.due("tests named " + got + ", due " + want, got.equals(want), true);
    }

    /** Makes a call that is written out, such as gap(0, 1), and compares what it answers or throws. */
    private static void check(FreightShare desk, String written, String want) throws ReflectiveOperationException {
        Matcher call = CALL.matcher(written);
        Probe.due("a call: " + written, call.matches(), true);
        String[] words = arguments(call.group(2));
        Class<?>[] types = new Class<?>[words.length];
        Object[] values = new Object[words.length];
        for (int k = 0; k < words.length; k++) {
            types[k] = int.class;
            values[k] = Integer.decode(words[k]);
        }
        String got;
        try {
            got = FreightShare.class.getMethod(call.group(1), types).invoke(desk, values).toString();
        } catch (InvocationTargetException e) {
            got = e.getCause() instanceof NoSuchElementException ? "NoSuchElementException" : e.getCause().toString();
        }
        Probe.due("README.md: " + written + " (" + got + ", told is " + want + ")", got.equals(want), true);
    }

    private static String[] arguments(String list) {
        return list.isBlank() ? new String[0] : list.trim().split(" *, *");
    }

    /** The block of a language that begins with such words; it must be there. */
    private static String block(String page, String language, String beginning) {
        String open = "```" + language + "\n" + beginning;
        int at = page.indexOf(open);
        Probe.due("a block with " + beginning, at >= 0, true);
        int from = at + open.length() - beginning.length();
        return at < 0 ? "" : page.substring(from, page.indexOf("```", from));
    }

    /** The cells of a table's rows, known by its head; it must have some. */
    private static List<String[]> rows(String page, String head) {
        List<String[]> rows = new ArrayList<>();
        List<String> lines = page.lines().toList();
        for (int k = lines.indexOf(head) + 2; k >= 2 && k < lines.size() && lines.get(k).startsWith("| "); k++) {
            rows.add(lines.get(k).substring(2).split(" \\| | \\|$"));
        }
        Probe.due("a table " + head, !rows.isEmpty(), true);
        return rows;
    }

    private static String unquoted(String cell) {
        return cell.replace("`", "");
    }
}
