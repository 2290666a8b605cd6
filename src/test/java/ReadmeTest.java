import java.io.IOException;
import java.lang.reflect.Method;
import java.nio.file.Files;
import java.nio.file.Path;
import java.util.TreeSet;
import java.util.regex.Matcher;
import java.util.regex.Pattern;

/** README.md tells the truth: each call on it is made, in its order; it is run from the root of the project. */
public final class ReadmeTest {
    private static final String DOCUMENT = "../shared/DOC.md";
    private static final Pattern CALL = Pattern.compile("desk\\.(\\w+)\\(([^)]*)\\);\\s*// (-?\\d+).*");
    private static final Pattern PURPOSE = Pattern.compile("(?s)## What it is\\s+(.*?)\n\n");
    private static final String[] FINDINGS = {"BEYOND", "MISSING", "SIZE", "KIND", "FULL", "NONE"};
    private static final String[] WORDS = {"new CornDesk()", "FINDINGS are answers below -999999999", "LOW is -1000000000",
        "at most 512 calls", "\n.ci/run\n"};

    private static int wrong;

    private static void hold(boolean holds, String what) {
        if (!holds) {
            wrong++;
            System.out.println("README.md: not so: " + what);
        }
    }

    private static Method methodOf(String name) {
        for (Method method : CornDesk.class.getDeclaredMethods()) {
            if (method.getName().equals(name)) {
                return method;
            }
        }
        return null;
    }

    private static Object[] numbersOf(Method method, String told) {
        String[] parts = told.isBlank() ? new String[0] : told.split(",");
        Class<?>[] types = method.getParameterTypes();
        Object[] numbers = new Object[parts.length];
        for (int i = 0; i < parts.length && i < types.length; i++) {
            String part = parts[i].trim();
            numbers[i] = types[i] == boolean.class ? (Object) Boolean.valueOf(part) : (Object) Integer.valueOf(part);
        }
        return numbers;
    }

    private static void makeCalls(String page) throws ReflectiveOperationException {
        CornDesk desk = null;
        TreeSet<String> called = new TreeSet<>();
        for (String line : page.split("\n")) {
            Matcher call = CALL.matcher(line);
            if (line.equals("CornDesk desk = new CornDesk();")) {
                desk = new CornDesk();
            } else if (call.matches()) {
                Method method = methodOf(call.group(1));
                hold(desk != null && method != null, line);
                if (desk != null && method != null) {
                    Object got = method.invoke(desk, numbersOf(method, call.group(2)));
                    hold(got.equals(Long.valueOf(call.group(3))), line + " (answered " + got + ")");
                    called.add(call.group(1));
                }
            } else {
                hold(!line.contains("desk."), "a call that is not read: " + line);
            }
        }
        for (Method method : CornDesk.class.getMethods()) {
            boolean own = method.getDeclaringClass() == CornDesk.class;
            hold(!own || called.contains(method.getName()), "it shows a call of " + method.getName());
        }
    }

    private static void words(String page) throws IOException {
        String flat = page.replaceAll("\\s+", " ");
        Matcher purpose = PURPOSE.matcher(Files.readString(Path.of(DOCUMENT)));
        hold(purpose.find() && flat.contains(purpose.group(1).replaceAll("\\s+", " ").trim()),
            "it says in the document's words what the class is for");
        for (String word : WORDS) {
            hold(page.contains(word), "it has " + word.trim());
        }
        for (int i = 0; i < FINDINGS.length; i++) {
            String row = "| " + FINDINGS[i] + " | LOW - " + (i + 1) + " | " + (-1000000001L - i) + " |";
            hold(flat.contains(row), "it has the row " + row);
        }
        hold(Files.isExecutable(Path.of(".ci/run")), ".ci/run can be run");
        try (var tests = Files.list(Path.of("src/test/java"))) {
            tests.forEach(test -> hold(page.contains(test.toString()), "it names " + test));
        }
    }

    public static void main(String[] args) throws IOException, ReflectiveOperationException {
        String page = Files.readString(Path.of("README.md"));
        makeCalls(page);
        words(page);
        System.out.println(wrong == 0 ? "README.md holds" : wrong + " things on README.md do not hold");
        if (wrong != 0) {
            System.exit(1);
        }
    }
}
