import java.io.IOException;
import java.lang.reflect.InvocationTargetException;
import java.lang.reflect.Method;
import java.lang.reflect.Modifier;
import java.nio.file.Files;
import java.nio.file.Path;
import java.util.ArrayList;
import java.util.Arrays;
import java.util.HashMap;
import java.util.List;
import java.util.Map;
import java.util.Set;
import java.util.TreeSet;
import java.util.regex.Matcher;
import java.util.regex.Pattern;
import java.util.stream.Stream;

/** What README.md shows: its calls are made one after another, and the answers beside them looked at. */
public final class ReadmeTest {
    private static final Path README = Path.of("README.md");
    private static final Path TESTS = Path.of("src/test/java");
    private static final String MADE = "ExpenseClubs x = new ExpenseClubs();";
    private static final Pattern CALL =
            Pattern.compile("(?:(\\w+) (\\w+) = )?x\\.(\\w+)\\(([^()]*)\\); +// ([^:]+)(?:: .+)?");
    private static final int MOST_CALLS = 512;

    private final Object x;
    private final Map<String, Integer> names = new HashMap<>();
    private final Set<String> called = new TreeSet<>();
    private int calls;

    private ReadmeTest(Object x) {
        this.x = x;
    }

    public static void main(String[] args) throws IOException {
        List<String> page = Files.readAllLines(README);
        List<String> shown = blocks(page, "java");
        Due.yes("the page makes one object, first of all", shown.indexOf(MADE) == 0 && shown.lastIndexOf(MADE) == 0);
        playedOn(new ExpenseClubs(), shown);
        playedOn(new ClubsModel(), shown);
        testsAreTold(String.join("\n", page));
        Due.yes("the page's way to run the tests", blocks(page, "sh").equals(List.of(".ci/run")));
        Due.yes(".ci/run can be run", Files.isExecutable(Path.of(".ci/run")));
        Due.end();
    }

    /** The lines of all blocks of a kind, without empty ones. */
    private static List<String> blocks(List<String> page, String kind) {
        List<String> lines = new ArrayList<>();
        String inside = null;
        for (String line : page) {
            if (line.startsWith("```")) {
                inside = inside == null ? line.substring(3) : null;
            } else if (kind.equals(inside) && !line.isBlank()) {
                lines.add(line);
            }
        }
        return lines;
    }

    private static void playedOn(Object x, List<String> shown) {
        ReadmeTest play = new ReadmeTest(x);
        for (String line : shown.subList(1, shown.size())) {
            play.line(line);
        }
        Set<String> face = new TreeSet<>();
        for (Method m : ExpenseClubs.class.getDeclaredMethods()) {
            if (Modifier.isPublic(m.getModifiers())) {
                face.add(m.getName());
            }
        }
        Due.yes("the page shows all calls, and does: " + play.called, play.called.equals(face));
        Due.yes("the page keeps to " + MOST_CALLS + " calls", play.calls <= MOST_CALLS);
    }

    private void line(String line) {
        Matcher call = CALL.matcher(line);
        if (!call.matches()) {
            Due.yes("a call with its answer is: " + line, false);
            return;
        }
        String answer = answer(call.group(1), call.group(3), numbers(call.group(4)));
        Due.yes(line + " -- answered " + answer, answer.equals(call.group(5)));
        if (call.group(2) != null && answer.matches("-?\\d+")) {
            names.put(call.group(2), Integer.parseInt(answer));
        }
        called.add(call.group(3));
        calls++;
    }

    private Integer[] numbers(String list) {
        if (list.isEmpty()) {
            return new Integer[0];
        }
        String[] words = list.split(", ");
        Integer[] numbers = new Integer[words.length];
        for (int k = 0; k < words.length; k++) {
            numbers[k] = names.containsKey(words[k]) ? names.get(words[k]) : Integer.valueOf(words[k]);
        }
        return numbers;
    }

    /** What a call answers, as the page writes it; type is the one of the name that it is kept under, if any. */
    private String answer(String type, String name, Integer[] numbers) {
        Class<?>[] types = new Class<?>[numbers.length];
        Arrays.fill(types, int.class);
        try {
            Method m = x.getClass().getDeclaredMethod(name, types);
            Due.yes(name + " answers " + m.getReturnType(), type == null || type.equals(m.getReturnType().getName()));
            return String.valueOf(m.invoke(x, (Object[]) numbers));
        } catch (InvocationTargetException e) {
            return "throws " + e.getCause().getClass().getSimpleName();
        } catch (ReflectiveOperationException e) {
            return "nothing, for there is no such call";
        }
    }

    private static void testsAreTold(String page) throws IOException {
        Set<String> there = new TreeSet<>();
        try (Stream<Path> files = Files.list(TESTS)) {
            files.map(f -> f.getFileName().toString()).filter(f -> f.endsWith("Test.java"))
                    .forEach(f -> there.add(f.substring(0, f.length() - ".java".length())));
        }
        Set<String> told = new TreeSet<>();
        Matcher word = Pattern.compile("`(\\w+Test)`").matcher(page);
        while (word.find()) {
            told.add(word.group(1));
        }
        Due.yes("the page tells of " + told + ", there are " + there, told.equals(there));
    }
}
