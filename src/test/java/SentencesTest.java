import java.io.IOException;
import java.nio.file.DirectoryStream;
import java.nio.file.Files;
import java.nio.file.Path;
import java.util.ArrayList;
import java.util.List;
import java.util.regex.Matcher;
import java.util.regex.Pattern;

/**
 * Whether each sentence of the document that names an edge has a test of its own: all words of the
 * document that tell of an edge are to stand among the words that a test says it is about.
 */
public final class SentencesTest {
    private static final Due due = new Due("SentencesTest");
    private static final int PROMISES = 50;

    /** Words by which the document names an edge: bounds, refusals, what is empty, of equal ones which. */
    private static final Pattern EDGE = Pattern.compile("NONE|[Rr]efused|NoSuchElementException|-\\d+( - p)?:"
            + "|\\d \\.\\. ?\\d*|at most|at least|empty|nothing|[Nn]obody|\\bnone\\b|\\bfalse\\b|least row"
            + "|of equal ones|of as \\w+ ones|of as many|\\bcut\\b|\\brest\\b|if fewer|more than|less than|at first"
            + "|below 0|above 5|another|others|too early|no room|missing|without|as ints|lowest|\\btoo\\b|none such");

    private static final Pattern ABOUT = Pattern.compile("due\\.about\\((\\d+), \"([^\"]*)\"\\)");

    private final String document;
    private final boolean[] tested;

    private SentencesTest(String document) {
        this.document = document;
        this.tested = new boolean[document.length()];
    }

    public static void main(String[] args) throws IOException {
        Path path = Path.of("../shared/DOC.md");
        if (!Files.isReadable(path)) {
            System.out.println("SentencesTest: there is no document to compare with");
            return;
        }
        SentencesTest sentences = new SentencesTest(oneLine(Files.readString(path)));
        List<String> sources = edgeTests();
        due.is("classes of edges " + sources.size(), sources.size() > 0, true);
        for (String source : sources) {
            sentences.markWordsOf(source);
        }
        sentences.findUntested();
        due.finish();
    }

    private static String oneLine(String text) {
        return text.replaceAll("\\s+", " ");
    }

    private static List<String> edgeTests() throws IOException {
        List<String> sources = new ArrayList<>();
        try (DirectoryStream<Path> files = Files.newDirectoryStream(Path.of("src/test/java"), "Edge*Test.java")) {
            for (Path file : files) {
                sources.add(Files.readString(file));
            }
        }
        return sources;
    }

    private int startOf(int promise) {
        String heading = promise <= PROMISES ? "## Promise " + promise + ":" : "## Not promised";
        return Math.max(0, document.indexOf(heading));
    }

    /** Words may stand in the promise itself, or ahead of all promises, among the Terms. */
    private void markWordsOf(String source) {
        Matcher about = ABOUT.matcher(source);
        while (about.find()) {
            int promise = Integer.parseInt(about.group(1));
            String words = about.group(2);
            boolean found = mark(words, startOf(promise), startOf(promise + 1)) || mark(words, 0, startOf(1));
            due.is("promise " + promise + " says: " + words, found, true);
        }
    }

    private boolean mark(String words, int from, int to) {
        int at = document.indexOf(words, from);
        if (at < 0 || at + words.length() > to) {
            return false;
        }
        for (int i = at; i < at + words.length(); i++) {
            tested[i] = true;
        }
        return true;
    }

    private void findUntested() {
        findUntested("Terms", document.indexOf("## Terms"), document.indexOf("Ahead of the calls `sign`"));
        for (int promise = 1; promise <= PROMISES; promise++) {
            int signature = document.indexOf("`: ", startOf(promise));
            findUntested("promise " + promise, signature, startOf(promise + 1));
        }
    }

    private void findUntested(String where, int from, int to) {
        due.is(where + " is found", from >= 0 && to > from, true);
        Matcher edge = EDGE.matcher(document).region(from, to);
        while (edge.find()) {
            String around = document.substring(Math.max(from, edge.start() - 30), Math.min(to, edge.end() + 30));
            due.is(where + ": tested is .. " + around + " ..", tested[edge.start()], true);
        }
    }
}
