import java.io.IOException;
import java.lang.reflect.Method;
import java.nio.file.DirectoryStream;
import java.nio.file.Files;
import java.nio.file.Path;
import java.util.TreeSet;

/**
 * Each sentence of ../shared/DOC.md that promises something has a test that is marked with it, and no test is marked
 * with what does not stand there; .ci/run runs it at the project's root.
 */
public final class SentencesTest {
    private static final Path DOCUMENT = Path.of("../shared/DOC.md");
    private static final Path TESTS = Path.of("src/test/java");

    public static void main(String[] args) throws IOException, ClassNotFoundException {
        Check check = new Check("Sentences");
        TreeSet<String> document = document();
        TreeSet<String> tested = tested();
        for (String sentence : document) {
            check.same("tested: " + sentence, tested.contains(sentence), true);
        }
        for (String sentence : tested) {
            check.same("in the document: " + sentence, document.contains(sentence), true);
        }
        check.end();
    }

    private static TreeSet<String> document() throws IOException {
        TreeSet<String> sentences = new TreeSet<>();
        String heading = "";
        boolean code = false;
        for (String line : Files.readAllLines(DOCUMENT)) {
            if (line.startsWith("```")) {
                code = !code;
            } else if (line.startsWith("#") || line.equals("Cores, forecasts")) {
                heading = line.replaceAll("^#+ ", "").replaceAll("^(Promise \\d+):.*", "$1");
            } else if (!code && !line.isBlank()) {
                for (String sentence : line.split("(?<=[.]) (?=[A-Z0-9])")) {
                    add(sentences, heading, sentence);
                }
            }
        }
        return sentences;
    }

    /** FaceTest holds the signature that may stand ahead of a sentence. */
    private static void add(TreeSet<String> sentences, String heading, String sentence) {
        String bare = sentence.strip().replaceAll("^`\\w+ \\w+\\([^)]*\\)( throws [\\w, ]+)?`: ", "");
        if (!tellsNothing(heading, bare)) {
            sentences.add(heading + ": " + bare);
        }
    }

    private static boolean tellsNothing(String heading, String sentence) {
        return heading.equals("Not promised") || sentence.startsWith("A land under ice, as one line of cells")
            || sentence.startsWith("Beds, sea, climates, ice, ash and years are told;")
            || sentence.startsWith("Ahead of the calls `") || sentence.matches("[1-7], [A-Z a-z]+\\.");
    }

    private static TreeSet<String> tested() throws IOException, ClassNotFoundException {
        TreeSet<String> sentences = new TreeSet<>();
        try (DirectoryStream<Path> files = Files.newDirectoryStream(TESTS, "*Test.java")) {
            for (Path file : files) {
                Class<?> tests = Class.forName(file.getFileName().toString().replace(".java", ""));
                for (Method method : tests.getDeclaredMethods()) {
                    Said said = method.getAnnotation(Said.class);
                    for (String sentence : said == null ? new String[0] : said.value()) {
                        sentences.add(said.under() + ": " + sentence);
                    }
                }
            }
        }
        return sentences;
    }
}
