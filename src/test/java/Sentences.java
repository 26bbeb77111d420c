import java.util.List;

/**
 * Tests that belong to one sentence of the document each: a test quotes the words that it is of,
 * which must stand in its section, and names the edge that it looks at.
 */
final class Sentences {
    private final Document document = new Document();
    private final Play play = new Play();
    private String section = "";
    private int tests = 0;

    void in(String sectionOfDocument) {
        section = sectionOfDocument;
    }

    void test(String words, String edge, String... lines) {
        play.run(title(words, edge), lines);
    }

    void due(String words, String edge, long got, long want) {
        play.due(title(words, edge), edge, got, want);
    }

    private String title(String words, String edge) {
        document.quote(section, words);
        tests++;
        return section + " \"" + words + "\": " + edge;
    }

    /** Fails if words of the document are left that no test belongs to. */
    void end() {
        List<String> untested = document.unquoted();
        untested.forEach(words -> System.out.println("no test is of these words, " + words));
        System.out.println(tests + " tests of single sentences");
        play.end();
        if (!untested.isEmpty()) {
            System.exit(1);
        }
    }

    /** The same words for each number, with # instead of it: "begin(2) = #" from 0 up to 59. */
    static String each(int from, int to, String words) {
        StringBuilder all = new StringBuilder();
        for (int n = from; n <= to; n++) {
            all.append(words.replace("#", Integer.toString(n))).append("; ");
        }
        return all.toString();
    }
}
