import java.io.IOException;
import java.nio.file.Files;
import java.nio.file.Path;
import java.util.LinkedHashMap;
import java.util.Map;

/**
 * The sentences of ../shared/DOC.md, by the section that they stand in, and the tests that hold them. A test
 * quotes the words that it holds: they must stand there, and in the end no word may be left that none quotes.
 */
final class Sentences {
    interface Test {
        void run();
    }

    /** One section, without its heading, marks and what only tells how the face is ordered. */
    private static final class Section {
        final StringBuilder text = new StringBuilder();
        boolean[] quoted = new boolean[0];

        boolean quote(String words) {
            int from = text.indexOf(words);
            for (int place = from; from >= 0 && place < from + words.length(); place++) {
                quoted[place] = true;
            }
            return from >= 0;
        }

        /** The words that no test quotes. */
        String left() {
            StringBuilder left = new StringBuilder();
            for (int place = 0; place < text.length(); place++) {
                boolean counts = Character.isLetterOrDigit(text.charAt(place)) && !quoted[place];
                left.append(counts ? text.charAt(place) : ' ');
            }
            return left.toString().trim();
        }
    }

    static final String TERMS = "Terms";
    static final int PROMISES = 30;

    private static final Path DOCUMENT = Path.of("..", "shared", "DOC.md");

    private final Map<String, Section> sections = new LinkedHashMap<>();
    private final Check check = new Check();
    private final boolean hasDocument;
    private String running = "";
    private int tests;

    /** Where the document can't be read the tests run all the same, and it is said that no quote is looked up. */
    Sentences() {
        hasDocument = Files.isReadable(DOCUMENT);
        if (!hasDocument) {
            System.out.println("no " + DOCUMENT + ": what the tests quote is not looked up");
            return;
        }
        try {
            read();
        } catch (IOException thrown) {
            check.due("reading " + DOCUMENT + " throws " + thrown, 1, 0);
        }
    }

    private void read() throws IOException {
        Section section = new Section();
        for (String line : Files.readAllLines(DOCUMENT)) {
            if (line.startsWith("## ")) {
                section = new Section();
                sections.put(line.substring(3).split(":")[0], section);
            } else if (!line.startsWith("```") && !line.startsWith("Ahead of the calls")) {
                String words = line.replaceFirst("^`[^`]*`: ", "").replaceFirst("^======== \\d ", "").trim();
                section.text.append(words.isEmpty() ? "" : words + " ");
            }
        }
        for (Section each : sections.values()) {
            each.quoted = new boolean[each.text.length()];
        }
    }

    static String promise(int number) {
        return "Promise " + number;
    }

    /** Runs a test of these words; one that asks nothing, or throws, is wrong. */
    void holds(String where, String words, Test test) {
        running = where + ", \"" + words + "\": ";
        tests++;
        if (hasDocument) {
            due("the words stand there", sections.getOrDefault(where, new Section()).quote(words) ? 1 : 0, 1);
        }
        int before = check.rows();
        try {
            test.run();
        } catch (RuntimeException thrown) {
            due("it throws " + thrown, 1, 0);
        }
        due("it asks", check.rows() > before ? 1 : 0, 1);
    }

    void due(String call, long got, long want) {
        check.due(running + call, got, want);
    }

    /** The Terms and every promise have all their words quoted. */
    void end() {
        running = "";
        if (hasDocument) {
            allQuoted(TERMS);
            for (int number = 1; number <= PROMISES; number++) {
                allQuoted(promise(number));
            }
        }
        System.out.println(tests + " tests of sentences");
        check.end();
    }

    private void allQuoted(String where) {
        due("the document has " + where, sections.containsKey(where) ? 1 : 0, 1);
        String left = sections.getOrDefault(where, new Section()).left();
        due(where + " has words that no test quotes (" + left + ")", left.length(), 0);
    }
}
