import java.io.IOException;
import java.lang.reflect.Method;
import java.nio.file.Files;
import java.nio.file.Path;
import java.util.ArrayList;
import java.util.List;
import java.util.TreeSet;

/** Holds src/test/SENTENCES.md to the document and to the tests: no sentence without a test, no test that is none. */
final class SentencesTest {
    private static final Path SENTENCES = Path.of("src/test/SENTENCES.md");

    private SentencesTest() {
    }

    private static void addWords(List<String> words, String line) {
        for (String word : line.strip().split("\\s+")) {
            if (!word.isEmpty()) {
                words.add(word);
            }
        }
    }

    private static List<String> wordsOfTheDocument() throws IOException {
        List<String> words = new ArrayList<>();
        for (String line : Document.lines()) {
            if (!line.startsWith("#") && !line.startsWith("```")) {
                addWords(words, line);
            }
        }
        return words;
    }

    private static List<String> wordsOfTheSentences() throws IOException {
        List<String> words = new ArrayList<>();
        for (String line : Files.readAllLines(SENTENCES)) {
            if (line.startsWith("> ")) {
                addWords(words, line.substring(2));
            }
        }
        return words;
    }

    private static String around(List<String> words, int at) {
        return String.join(" ", words.subList(Math.max(0, Math.min(at - 10, words.size())),
            Math.min(at + 10, words.size())));
    }

    static void allTheDocumentStandsThere() throws IOException {
        List<String> due = wordsOfTheDocument();
        List<String> got = wordsOfTheSentences();
        for (int i = 0; i < Math.max(due.size(), got.size()); i++) {
            boolean same = i < due.size() && i < got.size() && due.get(i).equals(got.get(i));
            Check.holds("the document's \"" + around(due, i) + "\", there \"" + around(got, i) + "\"", same);
        }
        Check.holds("the document has words", due.size() > 1000);
    }

    /** Each heading of the document stands there too, so that the promises keep their numbers. */
    static void allHeadingsStandThere() throws IOException {
        List<String> due = new ArrayList<>(Document.lines());
        due.removeIf(line -> !line.startsWith("## "));
        List<String> got = new ArrayList<>(Files.readAllLines(SENTENCES));
        got.removeIf(line -> !line.startsWith("## "));
        Check.holds("the headings are " + due + ", there " + got, due.equals(got));
    }

    private static TreeSet<String> namesOfTests() {
        TreeSet<String> names = new TreeSet<>();
        for (Class<?> tests : AllTests.TESTS) {
            for (Method test : tests.getDeclaredMethods()) {
                if (AllTests.isTest(test)) {
                    names.add(tests.getName() + "." + test.getName());
                }
            }
        }
        return names;
    }

    static void eachSentenceHasTestsThatAreRun() throws IOException {
        TreeSet<String> known = namesOfTests();
        String sentence = "";
        int named = 1;
        boolean goesOn = false;
        for (String line : Files.readAllLines(SENTENCES)) {
            boolean quoted = line.startsWith("> ");
            if (quoted && !goesOn) {
                Check.holds("a test named under \"" + sentence + "\"", named > 0);
                sentence = line.substring(2);
                named = 0;
            }
            if (line.startsWith("- ")) {
                String test = line.substring(2);
                Check.holds(test + " is a test", test.equals("free") || known.contains(test));
                named++;
            }
            goesOn = quoted;
        }
        Check.holds("a test named under the last sentence", named > 0 && !sentence.isEmpty());
    }
}
