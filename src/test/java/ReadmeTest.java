import java.io.ByteArrayOutputStream;
import java.io.IOException;
import java.io.PrintStream;
import java.lang.reflect.Method;
import java.lang.reflect.Modifier;
import java.nio.file.Files;
import java.nio.file.Path;
import java.util.Collections;
import java.util.List;
import java.util.Set;
import java.util.TreeSet;
import java.util.regex.Matcher;
import java.util.regex.Pattern;
import java.util.stream.Collectors;
import java.util.stream.Stream;

/** README.md tells how the class is used and tested as they now stand. */
public final class ReadmeTest {
    private static final Path README = Path.of("README.md");
    private static final Path TESTS = Path.of("src/test/java");
    private static final Pattern NAME_OF_TEST = Pattern.compile("\\| `(\\w+Test)` \\|");
    private static final Pattern CALL = Pattern.compile("\\| `(\\w+)\\(([^)]*)\\)` \\|");
    private static final Pattern SETTING =
        Pattern.compile("\\| (\\d) \\| [^|]* \\| (\\d+)(?: to |, )(\\d+) \\| (\\d+) \\|");

    /** The text between a line that begins a block of this kind and the line that ends it. */
    private static String block(String page, String kind) {
        String begin = "```" + kind + "\n";
        int from = page.indexOf(begin);
        int to = from < 0 ? -1 : page.indexOf("```", from + begin.length());
        return to < 0 ? "no such block" : page.substring(from + begin.length(), to);
    }

    private static String printedByExample() {
        PrintStream out = System.out;
        ByteArrayOutputStream printed = new ByteArrayOutputStream();
        System.setOut(new PrintStream(printed));
        try {
            Example.main(new String[0]);
        } finally {
            System.setOut(out);
        }
        return printed.toString().replace(System.lineSeparator(), "\n");
    }

    private static void lookAtExample(String page) throws IOException {
        Check.dueText("README's program", Files.readString(TESTS.resolve("Example.java")), block(page, "java"));
        Check.dueText("what README's program prints", printedByExample(), block(page, "text"));
    }

    private static void lookAtCalls(String page) {
        Set<String> due = new TreeSet<>();
        for (Method method : HeadDots.class.getDeclaredMethods()) {
            if (Modifier.isPublic(method.getModifiers())) {
                due.add(method.getName() + " of " + method.getParameterCount());
            }
        }
        Set<String> told = new TreeSet<>();
        for (Matcher call = CALL.matcher(page); call.find();) {
            int arguments = call.group(2).isEmpty() ? 0 : call.group(2).split(",").length;
            told.add(call.group(1) + " of " + arguments);
        }
        Check.dueText("README's calls", due.toString(), told.toString());
    }

    private static void lookAtSettings(String page) {
        int seen = 0;
        for (Matcher row = SETTING.matcher(page); row.find(); seen++) {
            int setting = Integer.parseInt(row.group(1));
            int least = Integer.parseInt(row.group(2));
            int most = Integer.parseInt(row.group(3));
            HeadDots head = new HeadDots();
            Check.due("README's row of setting " + setting, seen, setting);
            Check.due("README's first value", Integer.parseInt(row.group(4)), head.count(11 + setting));
            Check.dueThrow("less than README's", Check.ARGUMENT, head, () -> head.set(setting, least - 1));
            Check.dueThrow("more than README's", Check.ARGUMENT, head, () -> head.set(setting, most + 1));
            Check.due("README's least value", head.count(11 + setting), head.set(setting, least));
            Check.due("README's greatest value", least, head.set(setting, most));
        }
        Check.due("README's settings", 7, seen);
    }

    private static void lookAtTests(String page) throws IOException {
        try (Stream<Path> files = Files.list(TESTS)) {
            List<String> due = files.map(file -> file.getFileName().toString())
                .filter(name -> name.endsWith("Test.java"))
                .map(name -> name.replace(".java", ""))
                .sorted()
                .collect(Collectors.toList());
            List<String> told = NAME_OF_TEST.matcher(page).results()
                .map(found -> found.group(1))
                .collect(Collectors.toList());
            Collections.sort(told);
            Check.dueText("README's tests", due.toString(), told.toString());
        }
    }

    public static void main(String[] args) throws IOException {
        String page = Files.readString(README);
        lookAtExample(page);
        lookAtCalls(page);
        lookAtSettings(page);
        lookAtTests(page);
        Check.end();
    }
}
