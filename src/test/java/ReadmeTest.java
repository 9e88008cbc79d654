import java.io.IOException;
import java.lang.reflect.Method;
import java.lang.reflect.Modifier;
import java.nio.file.Files;
import java.nio.file.Path;
import java.util.ArrayList;
import java.util.List;
import java.util.Set;
import java.util.TreeSet;
import java.util.regex.MatchResult;
import java.util.regex.Pattern;
import java.util.stream.Collectors;
import java.util.stream.Stream;

/** What README.md says is so: its run of calls, and its tables of reasons, calls and tests. */
public final class ReadmeTest {
    private static final Path TESTS = Path.of("src/test/java");
    private static final Due DUE = new Due("ReadmeTest");

    private static final Pattern CALL = Pattern.compile("(?m)^yard\\.(\\w+)\\(([^)]*)\\);.*: (-?\\d+)$");
    private static final Pattern REASON_ROW = Pattern.compile("(?m)^\\| (\\d) \\| ([A-Z]+) \\| (-\\d+) \\|");
    private static final Pattern CALL_ROW = Pattern.compile("(?m)^\\| `(\\w+)\\(([^)]*)\\)` \\|");
    private static final Pattern TEST_ROW = Pattern.compile("(?m)^\\| `(\\w+)` \\|");

    private static List<MatchResult> found(Pattern pattern, String text) {
        return pattern.matcher(text).results().collect(Collectors.toList());
    }

    private static List<String> words(String listed) {
        List<String> words = new ArrayList<>();
        for (String word : listed.split(",")) {
            if (!word.isBlank()) {
                words.add(word.trim());
            }
        }
        return words;
    }

    private static List<Method> face() {
        return Stream.of(TankSidings.class.getDeclaredMethods())
            .filter(method -> Modifier.isPublic(method.getModifiers())).collect(Collectors.toList());
    }

    private static int answer(TankSidings yard, String name, List<String> words) throws ReflectiveOperationException {
        for (Method method : face()) {
            if (method.getName().equals(name) && method.getParameterCount() == words.size()) {
                Object[] given = new Object[words.size()];
                for (int p = 0; p < given.length; p++) {
                    boolean truth = method.getParameterTypes()[p] == boolean.class;
                    given[p] = truth ? (Object) Boolean.valueOf(words.get(p)) : (Object) Integer.valueOf(words.get(p));
                }
                return (Integer) method.invoke(yard, given);
            }
        }
        throw new NoSuchMethodException(name + words);
    }

    /** All seven reasons and OUTSIDE are shown, so that a reader has seen each of them once. */
    private static void runAnswersAsItSays(String readme) throws ReflectiveOperationException {
        TankSidings yard = new TankSidings();
        Set<Integer> refused = new TreeSet<>();
        List<MatchResult> calls = found(CALL, readme);
        for (MatchResult call : calls) {
            int due = Integer.parseInt(call.group(3));
            DUE.is(call.group(), due, answer(yard, call.group(1), words(call.group(2))));
            if (due < 0) {
                refused.add(due);
            }
        }
        DUE.is("lines of the run that have an answer", found(Pattern.compile("(?m)^yard\\."), readme).size(), calls.size());
        DUE.same("refusals in the run", "[-17, -16, -15, -14, -13, -12, -11, -1]", refused.toString());
    }

    private static void reasonsAreTheDocuments(String readme) throws IOException {
        String document = Files.readString(Path.of("../shared/DOC.md"));
        List<MatchResult> rows = found(REASON_ROW, readme);
        DUE.is("rows of the reasons", 7, rows.size());
        for (MatchResult row : rows) {
            DUE.is("answer of " + row.group(2), -10 - Integer.parseInt(row.group(1)), Integer.parseInt(row.group(3)));
            boolean told = Pattern.compile("\\b" + row.group(1) + " " + row.group(2) + "\\b").matcher(document).find();
            DUE.is("the document has reason " + row.group(1) + " " + row.group(2), 1, told ? 1 : 0);
        }
    }

    private static void callsAreThoseOfTheClass(String readme) {
        Set<String> due = new TreeSet<>();
        for (Method method : face()) {
            due.add(method.getName() + " of " + method.getParameterCount());
        }
        Set<String> said = new TreeSet<>();
        for (MatchResult row : found(CALL_ROW, readme)) {
            said.add(row.group(1) + " of " + words(row.group(2)).size());
        }
        DUE.same("calls in the table", due.toString(), said.toString());
    }

    private static void testsAndHelpersAreThere(String readme) throws IOException {
        Set<String> tests = new TreeSet<>();
        try (Stream<Path> files = Files.list(TESTS)) {
            for (Path file : files.collect(Collectors.toList())) {
                String name = file.getFileName().toString().replace(".java", "");
                if (name.endsWith("Test")) {
                    tests.add(name);
                } else {
                    DUE.is("helper " + name + " is told", 1, readme.contains("`" + name + "`") ? 1 : 0);
                }
            }
        }
        Set<String> said = new TreeSet<>();
        for (MatchResult row : found(TEST_ROW, readme)) {
            said.add(row.group(1));
        }
        DUE.same("tests in the table", tests.toString(), said.toString());
    }

    private static void filesAreThere() {
        for (String file : List.of("src/main/java/TankSidings.java", "../shared/DOC.md", "../shared/LANGUAGE.md")) {
            DUE.is(file + " is there", 1, Files.isReadable(Path.of(file)) ? 1 : 0);
        }
        DUE.is(".ci/run can be run", 1, Files.isExecutable(Path.of(".ci/run")) ? 1 : 0);
    }

    public static void main(String[] args) throws IOException, ReflectiveOperationException {
        String readme = Files.readString(Path.of("README.md"));
        runAnswersAsItSays(readme);
        reasonsAreTheDocuments(readme);
        callsAreThoseOfTheClass(readme);
        testsAndHelpersAreThere(readme);
        filesAreThere();
        DUE.end();
    }
}
