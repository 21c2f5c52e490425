import java.io.IOException;
import java.io.UncheckedIOException;
import java.nio.file.Files;
import java.nio.file.Path;
import java.util.LinkedHashMap;
import java.util.List;
import java.util.Map;
import java.util.stream.Collectors;
import java.util.stream.Stream;

/**
 * Every sentence of 'Terms' and of the promises has a test that names the promise: sentences.txt is
 * the whole of these chapters, part by part, and each part's tests are there.
 */
final class SentencesTest {
    private static final Path DOCUMENT = Path.of("../shared/DOC.md");
    private static final Path SENTENCES = Path.of("src/test/sentences.txt");
    private static final Path TESTS = Path.of("src/test/java");
    private static final String CHAPTER = "## ";
    private static final String TEST = "> ";

    private final Check check = new Check();

    /** The lines of each chapter that is of 'Terms' or a promise, by its title. */
    private static Map<String, List<String>> chapters(Path file) throws IOException {
        Map<String, List<String>> chapters = new LinkedHashMap<>();
        List<String> lines = Files.readAllLines(file);
        for (int i = 0; i < lines.size(); i++) {
            String line = lines.get(i);
            if (line.equals("## Terms") || line.startsWith("## Promise ")) {
                int end = i + 1;
                while (end < lines.size() && !lines.get(end).startsWith(CHAPTER)) {
                    end++;
                }
                chapters.put(line.substring(CHAPTER.length()), lines.subList(i + 1, end));
            }
        }
        return chapters;
    }

    private static String words(List<String> lines) {
        String all = lines.stream().filter(line -> !line.startsWith(TEST)).collect(Collectors.joining(" "));
        return all.trim().replaceAll("\\s+", " ");
    }

    private static String sourceOfTests() throws IOException {
        try (Stream<Path> files = Files.list(TESTS)) {
            return files.filter(file -> file.toString().endsWith("Test.java")).map(SentencesTest::textOf)
                    .collect(Collectors.joining());
        }
    }

    private static String textOf(Path file) {
        try {
            return Files.readString(file);
        } catch (IOException e) {
            throw new UncheckedIOException(e);
        }
    }

    /** Whether a test's name, up to its first colon, names the chapter's promise; for 'Terms', any. */
    private static boolean namesPromise(String test, String chapter) {
        String names = test.substring(0, Math.max(0, test.indexOf(':')));
        if (chapter.equals("Terms")) {
            return names.matches(".*[Pp]romises? \\d.*");
        }
        String number = chapter.replaceAll("\\D", "");
        return names.matches("Promise (.*\\D)?" + number + "(\\D.*)?");
    }

    private void tests(String chapter, List<String> lines, String source) {
        String part = "";
        int testsOfPart = 1;
        for (String line : lines) {
            if (line.startsWith(TEST)) {
                String test = line.substring(TEST.length());
                boolean there = source.contains("\"" + test);
                check.equal("the test '" + test + "'", there ? "is there" : "is not there", "is there");
                check.equal("its promise", namesPromise(test, chapter) ? "is named" : "is not named", "is named");
                testsOfPart++;
            } else if (!line.isBlank()) {
                hasTests(part, testsOfPart);
                part = line;
                testsOfPart = 0;
            }
        }
        hasTests(part, testsOfPart);
    }

    private void hasTests(String part, int tests) {
        check.equal("'" + part + "'", tests > 0 ? "has a test" : "has no test", "has a test");
    }

    private void compare() throws IOException {
        Map<String, List<String>> document = chapters(DOCUMENT);
        Map<String, List<String>> sentences = chapters(SENTENCES);
        check.about(SENTENCES + " has the chapters of the document");
        check.same("the chapters of the document", document.size(), 14);
        check.equal("its chapters", sentences.keySet().toString(), document.keySet().toString());
        String source = sourceOfTests();
        for (String chapter : sentences.keySet()) {
            check.about(chapter + ": has all its sentences, and tests of each");
            List<String> said = document.getOrDefault(chapter, List.of());
            check.equal("the words of the chapter", words(sentences.get(chapter)), words(said));
            tests(chapter, sentences.get(chapter), source);
        }
    }

    public static void main(String[] args) throws IOException {
        SentencesTest test = new SentencesTest();
        test.compare();
        test.check.end();
    }
}
