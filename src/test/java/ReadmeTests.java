import java.lang.reflect.Method;
import java.lang.reflect.Modifier;
import java.nio.file.Files;
import java.nio.file.Path;
import java.util.ArrayList;
import java.util.List;
import java.util.TreeSet;
import java.util.regex.Matcher;
import java.util.regex.Pattern;
import java.util.stream.Stream;

/** README.md: its example is made call by call, and it tells of every call and every test. */
public final class ReadmeTests {
    private static final Path README = Path.of("README.md");
    private static final Path TESTS = Path.of("src/test/java");
    private static final String FIRST_LINE = "OnceLedger house = new OnceLedger();";
    private static final Pattern CALL = Pattern.compile("house\\.(\\w+)\\((.*)\\); +// (-?\\w+)(: .+)?");
    private static final int MOST_CALLS = 512;

    private static int wrong = 0;

    private static void check(boolean holds, String what) {
        if (!holds) {
            wrong++;
            System.out.println(what);
        }
    }

    public static void main(String[] args) throws Exception {
        String text = Files.readString(README);
        int calls = example(text);
        toldCalls(text);
        toldTests(text);
        System.out.println(wrong == 0 ? calls + " calls of the example: all answers are as due" : wrong + " are wrong");
        if (wrong != 0) System.exit(1);
    }

    private static int example(String text) throws Exception {
        List<String> lines = exampleLines(text);
        check(!lines.isEmpty() && lines.get(0).equals(FIRST_LINE), "the example does not begin with " + FIRST_LINE);
        check(lines.size() > 1 && lines.size() <= 1 + MOST_CALLS, "the example has no calls, or too many");
        OnceLedger house = new OnceLedger();
        for (int i = 1; i < lines.size(); i++) {
            Matcher call = CALL.matcher(lines.get(i));
            if (call.matches()) {
                String got = String.valueOf(answer(house, call.group(1), call.group(2)));
                check(got.equals(call.group(3)), "line " + i + " of the example answered " + got + ": " + lines.get(i));
            } else {
                check(false, "not a call with its answer: " + lines.get(i));
            }
        }
        return Math.max(lines.size() - 1, 0);
    }

    private static List<String> exampleLines(String text) {
        List<String> lines = new ArrayList<>();
        int section = text.indexOf("### Example\n");
        int start = text.indexOf("```java\n", Math.max(section, 0));
        int end = text.indexOf("\n```\n", Math.max(start, 0));
        if (section < 0 || start < 0 || end < 0) return lines;
        lines.addAll(List.of(text.substring(start + "```java\n".length(), end).split("\n")));
        return lines;
    }

    private static Object answer(OnceLedger house, String name, String args) throws Exception {
        String[] words = args.isEmpty() ? new String[0] : args.split(", ");
        for (Method m : OnceLedger.class.getDeclaredMethods()) {
            if (!m.getName().equals(name) || !Modifier.isPublic(m.getModifiers())) continue;
            if (m.getParameterCount() != words.length) continue;
            Object[] values = new Object[words.length];
            for (int i = 0; i < words.length; i++) values[i] = value(m.getParameterTypes()[i], words[i]);
            return m.invoke(house, values);
        }
        return "nothing, since there is no such call";
    }

    private static Object value(Class<?> type, String word) {
        if (type == boolean.class) {
            if (!word.equals("true") && !word.equals("false")) throw new IllegalArgumentException(word);
            return word.equals("true");
        }
        if (type == long.class) return Long.decode(word.replaceAll("L$", ""));
        return Integer.decode(word);
    }

    private static void toldCalls(String text) {
        TreeSet<String> told = new TreeSet<>();
        Matcher row = Pattern.compile("(?m)^\\| `(\\w+)\\(([^)]*)\\)` \\| .+ \\|$").matcher(text);
        while (row.find()) told.add(row.group(1) + " of " + (row.group(2).isEmpty() ? 0 : row.group(2).split(", ").length));
        TreeSet<String> due = new TreeSet<>();
        for (Method m : OnceLedger.class.getDeclaredMethods()) {
            if (Modifier.isPublic(m.getModifiers())) due.add(m.getName() + " of " + m.getParameterCount());
        }
        check(told.equals(due), "the calls that are told are " + told + ", due are " + due);
    }

    private static void toldTests(String text) throws Exception {
        try (Stream<Path> files = Files.list(TESTS)) {
            for (Path file : (Iterable<Path>) files.sorted()::iterator) {
                String name = file.getFileName().toString();
                if (!name.endsWith("Tests.java")) continue;
                check(text.contains("- `" + TESTS + "/" + name + "`: "), name + " is not told of");
            }
        }
        Matcher named = Pattern.compile("[\\w./]+\\.java\\b").matcher(text);
        while (named.find()) check(Files.exists(Path.of(named.group())), "there is no " + named.group());
    }
}
