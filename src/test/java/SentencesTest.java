import java.io.IOException;
import java.nio.file.Files;
import java.nio.file.Path;
import java.util.ArrayList;
import java.util.BitSet;
import java.util.List;
import java.util.Map;
import java.util.TreeMap;
import java.util.regex.Matcher;
import java.util.regex.Pattern;
import java.util.stream.Stream;

/**
 * Every word of ../shared/DOC.md, from "What it is" and "Terms" on to promise 39, stands in the words (@Says) of a test:
 * of that promise, or, where it is told of all, of any. A sentence that no test names is printed.
 */
public final class SentencesTest {
    private static final Path DOCUMENT = Path.of("../shared/DOC.md");
    private static final Path TESTS = Path.of("src/test/java");
    private static final int PROMISES = 39, OF_ALL = 0;
    private static final Pattern NAMED =
        Pattern.compile("@Says\\(((?:\\s*\"[^\"]*\"\\s*\\+?)+)\\)\\s+static void promise(\\d+)_\\w+\\(\\)");
    private static final Pattern QUOTED = Pattern.compile("\"([^\"]*)\"");
    private static final Pattern WORD = Pattern.compile("[\\w'-]*\\w");

    private static int wrong = 0;

    private static void wrong(String what) {
        wrong++;
        System.out.println(what);
    }

    public static void main(String[] args) throws IOException {
        String document = plain(Files.readString(DOCUMENT));
        Map<Integer, String> sections = sections(document);
        Map<Integer, BitSet> named = new TreeMap<>();
        sections.forEach((promise, text) -> named.put(promise, new BitSet(text.length())));
        int tests = 0;
        for (String source : sources()) {
            Matcher m = NAMED.matcher(source);
            while (m.find()) {
                tests++;
                name(words(m.group(1)), Integer.parseInt(m.group(2)), sections, named);
            }
        }
        int words = 0;
        for (Map.Entry<Integer, String> section : sections.entrySet()) {
            words += wordsNamed(section.getKey(), section.getValue(), named.get(section.getKey()));
        }
        if (!document.contains("## Promise " + PROMISES + ":") || document.contains("## Promise " + (PROMISES + 1) + ":")) {
            wrong("the document has not " + PROMISES + " promises");
        }
        System.out.println(words + " words of the document, named by " + tests + " tests, " + wrong + " wrong");
        if (wrong != 0) {
            System.exit(1);
        }
    }

    private static List<String> sources() throws IOException {
        List<String> sources = new ArrayList<>();
        try (Stream<Path> files = Files.list(TESTS)) {
            for (Path file : files.sorted().toList()) {
                sources.add(Files.readString(file));
            }
        }
        return sources;
    }

    /** What is told of all (0), and of each promise what stands behind its call. */
    private static Map<Integer, String> sections(String document) {
        Map<Integer, String> sections = new TreeMap<>();
        String terms = between(document, "## Terms", "Ahead of the calls");
        sections.put(OF_ALL, between(document, "## What it is", "## The public face") + " "
            + terms.replace("======== 1 ", "").replace("======== 2 ", ""));
        for (int promise = 1; promise <= PROMISES; promise++) {
            String text = between(document, "## Promise " + promise + ":", "## ");
            int call = text.indexOf('`');
            sections.put(promise, text.substring(text.indexOf('`', call + 1) + 1));
        }
        return sections;
    }

    private static String words(String literals) {
        StringBuilder words = new StringBuilder();
        Matcher m = QUOTED.matcher(literals);
        while (m.find()) {
            words.append(m.group(1));
        }
        return plain(words.toString());
    }

    private static void name(String words, int promise, Map<Integer, String> sections, Map<Integer, BitSet> named) {
        for (int section : new int[] {OF_ALL, promise}) {
            String text = sections.getOrDefault(section, "");
            for (int i = text.indexOf(words); i >= 0 && !words.isEmpty(); i = text.indexOf(words, i + 1)) {
                named.get(section).set(i, i + words.length());
            }
        }
    }

    private static int wordsNamed(int promise, String text, BitSet named) {
        int words = 0;
        Matcher m = WORD.matcher(text);
        while (m.find()) {
            words++;
            if (named.nextClearBit(m.start()) < m.end()) {
                String near = text.substring(Math.max(0, m.start() - 20), Math.min(text.length(), m.end() + 20));
                wrong((promise == OF_ALL ? "terms" : "promise " + promise) + ": no test names '" + m.group() + "' in '.." + near
                    + "..'");
            }
        }
        if (words == 0) {
            wrong("promise " + promise + " has no words");
        }
        return words;
    }

    private static String between(String document, String from, String to) {
        int at = document.indexOf(from);
        if (at < 0) {
            wrong("the document doesn't have '" + from + "'");
            return "";
        }
        int start = at + from.length();
        int end = document.indexOf(to, start);
        return document.substring(start, end < 0 ? document.length() : end);
    }

    private static String plain(String text) {
        return text.replace("```text", "").replace("```", "").replaceAll("\\s+", " ").strip();
    }
}
