import java.io.IOException;
import java.nio.file.Files;
import java.nio.file.Path;
import java.util.ArrayList;
import java.util.List;
import java.util.Map;
import java.util.TreeMap;
import java.util.regex.Matcher;
import java.util.regex.Pattern;
import java.util.stream.Stream;

/**
 * Whether each sentence of the document has a test: the tests quote the words by which their answers
 * are due (Check.promise, Check.term). What they quote must stand there, and nothing may be left over.
 */
public final class SentenceTests {
    private static final Path DOCUMENT = Path.of("../shared/DOC.md"), TESTS = Path.of("src/test/java");
    private static final int TERMS = 0;
    /** Headings and words that say nothing that could be broken. */
    private static final String[] SAYS_NOTHING = {
        "Ahead of the calls [^.]* the interface says: ----( (variables|texts|diagrams|the order)\\.)?", "```(text)?", "TEXTS\\."};

    private SentenceTests() { }

    private static String plain(String text) { return text.replaceAll("\\s+", " ").trim(); }

    /** What is said ahead of the promises, and in each of them. */
    static Map<Integer, String> sections(String document) {
        Map<Integer, String> sections = new TreeMap<>();
        String calls = document.replaceAll("(?s).*\n(An object is used for [^\n]*).*", "$1");
        String terms = document.replaceAll("(?s).*\n## Terms\n(.*?)\n## Promise 1:.*", "$1");
        for (String nothing : SAYS_NOTHING) terms = terms.replaceAll(nothing, " ");
        sections.put(TERMS, plain(calls + " " + terms));
        Matcher matcher = Pattern.compile("(?s)## Promise (\\d+):[^\n]*\n+`[^`]*`:(.*?)(?=\n## )").matcher(document);
        while (matcher.find()) sections.put(Integer.parseInt(matcher.group(1)), plain(matcher.group(2)));
        return sections;
    }

    /** The words that a source quotes, by the number of the promise. */
    static Map<Integer, List<String>> quotes(String source) {
        Map<Integer, List<String>> quotes = new TreeMap<>();
        Matcher matcher = Pattern.compile("(?s)Check\\.(?:promise\\((\\d+), |term\\()((?:\\s*\\+?\\s*\"(?:[^\"\\\\]|\\\\.)*\")+)\\)").matcher(source);
        while (matcher.find()) {
            int number = matcher.group(1) == null ? TERMS : Integer.parseInt(matcher.group(1));
            String words = matcher.group(2).replaceAll("\"\\s*\\+\\s*\"", "").replaceAll("^\\s*\"|\"\\s*$", "").replace("\\\"", "\"").replace("\\\\", "\\");
            quotes.computeIfAbsent(number, n -> new ArrayList<>()).add(plain(words));
        }
        return quotes;
    }

    static String sources() throws IOException {
        StringBuilder all = new StringBuilder();
        try (Stream<Path> paths = Files.list(TESTS)) {
            for (Path path : (Iterable<Path>) paths.sorted()::iterator) {
                if (path.toString().endsWith("Tests.java")) all.append(Files.readString(path));
            }
        }
        return all.toString();
    }

    static void compare(Map<Integer, String> sections, Map<Integer, List<String>> quotes) {
        Check.due("promises", sections.size() - 1, 38);
        for (int number : quotes.keySet()) {
            String section = sections.getOrDefault(number, "");
            for (String words : quotes.get(number)) Check.due("stands there, " + number + ": " + words, section.contains(words) ? 1 : 0, 1);
        }
        for (int number : sections.keySet()) {
            String left = sections.get(number);
            // The longest first, lest a short one break what a long one quotes.
            List<String> words = new ArrayList<>(quotes.getOrDefault(number, List.of()));
            words.sort((a, b) -> b.length() - a.length());
            for (String one : words) left = left.replace(one, " ");
            Check.due("left without a test, " + number, left.replaceAll("[\\s;:,.]+", " ").trim(), "");
        }
    }

    public static void main(String[] args) throws IOException {
        if (Files.isReadable(DOCUMENT)) compare(sections(Files.readString(DOCUMENT)), quotes(sources()));
        else System.out.println("no document to compare with");
        Check.finish("sentences");
    }
}
