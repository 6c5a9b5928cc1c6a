import java.io.IOException;
import java.nio.file.Files;
import java.nio.file.Path;
import java.util.BitSet;
import java.util.LinkedHashMap;
import java.util.List;
import java.util.Map;
import java.util.TreeMap;
import java.util.regex.Matcher;
import java.util.regex.Pattern;
import java.util.stream.Collectors;
import java.util.stream.Stream;

/**
 * The words that the tests name stand in the document, and wherever the document names an edge (a range, a refusal,
 * what is none, least, full, empty), a test names the words. So a sentence that comes new asks for a test.
 */
public final class WordsTest {
    private static final Path DOCUMENT = Path.of("../shared/DOC.md");
    private static final Path TESTS = Path.of("src/test/java");
    private static final int PROMISES = 34;
    private static final Pattern NAMED = Pattern.compile("(?:Due\\.words\\((\\d+), |String WORDS = )\"([^\"]+)\"");
    private static final Pattern EDGE = Pattern.compile("\\b(?:NONE|BAD|STATE|FULL|NO|NOTHING|CAST|PLACE|SIZE)\\b"
        + "|-\\d+|\\d+ \\.\\. \\d+|\\d+ to \\d+|\\d+ or more|at most|at first|\\(cut\\)|wrapping|once|below|above 60"
        + "|beyond|[Nn]obody|\\bnone\\b|empty|not both|of several|too early|\\bends\\b|kept|\\belse\\b|if not|alone"
        + "|fewest|most|least|lowest|stays|does not matter|each its own|share|holds nothing|changes nothing|likewise");
    private static final String INTRODUCTION = "What it is";
    private static final List<String> TERMS = List.of(INTRODUCTION, "The public face", "Terms");

    public static void main(String[] args) throws IOException {
        Map<String, String> sections = sections();
        Due.due("sections", sections.size(), TERMS.size() + PROMISES);
        Map<String, BitSet> covered = new TreeMap<>();
        sections.keySet().forEach(section -> covered.put(section, new BitSet()));
        int[] tests = new int[PROMISES + 1];
        Matcher named = NAMED.matcher(sources());
        while (named.find()) {
            int promise = named.group(1) == null ? 0 : Integer.parseInt(named.group(1));
            boolean stands = cover(sections, covered, promise, named.group(2));
            Due.due("promise " + promise + " has the words \"" + named.group(2) + "\"", stands ? 1 : 0, 1);
            tests[promise]++;
        }
        for (int promise = 1; promise <= PROMISES; promise++) {
            Due.due("tests of promise " + promise, Math.min(1, tests[promise]), 1);
        }
        for (String section : sections.keySet()) {
            if (!section.equals(INTRODUCTION)) {
                edges(section, sections.get(section), covered.get(section));
            }
        }
        Due.end("WordsTest");
    }

    private static String sources() throws IOException {
        try (Stream<Path> files = Files.list(TESTS)) {
            StringBuilder all = new StringBuilder();
            for (Path file : files.sorted().collect(Collectors.toList())) {
                all.append(Files.readString(file));
            }
            return all.toString();
        }
    }

    /** The document's sections up to the last promise, by their headings or, if they are promises, their numbers. */
    private static Map<String, String> sections() throws IOException {
        Map<String, String> sections = new LinkedHashMap<>();
        Matcher heading = Pattern.compile("(?m)^## (?:Promise (\\d+): \\w.*|(.+))\n((?:(?!## ).*\n?)*)")
            .matcher(Files.readString(DOCUMENT));
        while (heading.find()) {
            String name = heading.group(1) == null ? heading.group(2) : heading.group(1);
            if (heading.group(1) != null || TERMS.contains(name)) {
                sections.put(name, heading.group(3).replaceAll("\\s+", " "));
            }
        }
        return sections;
    }

    /** Whether the words stand at the promise or in the terms; where they do is covered then. */
    private static boolean cover(Map<String, String> sections, Map<String, BitSet> covered, int promise,
            String words) {
        boolean stands = false;
        for (String section : sections.keySet()) {
            if (!TERMS.contains(section) && !section.equals(String.valueOf(promise))) {
                continue;
            }
            String text = sections.get(section);
            for (int at = text.indexOf(words); at >= 0; at = text.indexOf(words, at + 1)) {
                covered.get(section).set(at, at + words.length());
                stands = true;
            }
        }
        return stands;
    }

    private static void edges(String section, String text, BitSet covered) {
        Matcher edge = EDGE.matcher(text);
        while (edge.find()) {
            String around = text.substring(Math.max(0, edge.start() - 40), Math.min(text.length(), edge.end() + 40));
            Due.due(section + ": the edge \"" + edge.group() + "\" in \"" + around + "\" has a test",
                covered.nextClearBit(edge.start()) >= edge.end() ? 1 : 0, 1);
        }
    }
}
