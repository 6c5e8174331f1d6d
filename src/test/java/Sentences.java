import java.io.IOException;
import java.nio.file.Files;
import java.nio.file.Path;
import java.util.ArrayList;
import java.util.List;
import java.util.TreeMap;

/**
 * The tests by the sentences that they are of: each names its section of the document and the very words,
 * and the document is looked through for words that no test names.
 */
final class Sentences {
    private static final Path DOCUMENT = Path.of("../shared/DOC.md");

    private final TreeMap<String, List<String>> quotes = new TreeMap<>();
    private final String only;
    private int tests = 0;

    /** All tests (null), or those alone that are of this section or whose words hold this. */
    Sentences(String only) {
        this.only = only;
    }

    void test(String section, String words, Runnable test) {
        quotes.computeIfAbsent(section, s -> new ArrayList<>()).add(words);
        if (only != null && !section.equals(only) && !words.contains(only)) return;
        tests++;
        Checks.at(section + " '" + words + "'");
        test.run();
    }

    int tests() {
        return tests;
    }

    void compareWithDocument() throws IOException {
        Checks.at("the document");
        if (!Files.exists(DOCUMENT)) {
            System.out.println("no " + DOCUMENT + " to compare the sentences with");
            return;
        }
        TreeMap<String, String> sections = sections(Files.readString(DOCUMENT));
        for (String section : quotes.keySet()) {
            if (!sections.containsKey(section)) Checks.fault("there is no section " + section);
        }
        for (String section : sections.keySet()) compare(section, sections.get(section));
    }

    private void compare(String section, String text) {
        boolean[] named = new boolean[text.length()];
        for (String words : quotes.getOrDefault(section, List.of())) {
            int from = text.indexOf(words);
            if (from < 0) Checks.fault(section + " does not say '" + words + "'");
            for (int i = from; from >= 0 && i < from + words.length(); i++) named[i] = true;
        }
        StringBuilder left = new StringBuilder();
        for (int i = 0; i < text.length(); i++) left.append(named[i] ? '|' : text.charAt(i));
        for (String words : left.toString().split("\\|+")) {
            if (words.matches(".*[A-Za-z0-9].*")) Checks.fault(section + " says without a test: '" + words + "'");
        }
    }

    /** The first part, the numbered terms and the promises, each as one line without its heading and its signature. */
    private static TreeMap<String, String> sections(String document) {
        TreeMap<String, String> sections = new TreeMap<>();
        String text = document.replace("```text", "").replace("```", "").replaceAll("\\s+", " ");
        sections.put("What it is", between(text, "## What it is", "## The public face"));
        String terms = " " + between(text, "## Terms", "## Promise 1:");
        for (int n = 1; n <= 4; n++) {
            sections.put("Terms " + n, between(terms, " " + n + ". ", n < 4 ? " " + (n + 1) + ". " : null));
        }
        String rest = between(text, "## Promise 1:", "## Not promised");
        String[] promises = ("1:" + rest).split("## Promise ");
        for (String promise : promises) {
            int signature = promise.indexOf("`: ");
            String number = promise.substring(0, Math.max(promise.indexOf(':'), 0));
            sections.put("Promise " + number, promise.substring(signature + 3).trim());
        }
        return sections;
    }

    private static String between(String text, String from, String to) {
        int start = text.indexOf(from);
        int end = to == null ? text.length() : text.indexOf(to, Math.max(start, 0));
        if (start < 0 || end < start) {
            Checks.fault("has no '" + from + "' ahead of '" + to + "'");
            return "";
        }
        return text.substring(start + from.length(), end).trim();
    }
}
