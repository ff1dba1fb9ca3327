import java.io.IOException;
import java.lang.reflect.Method;
import java.nio.charset.StandardCharsets;
import java.nio.file.Files;
import java.nio.file.Path;
import java.util.ArrayList;
import java.util.LinkedHashMap;
import java.util.List;
import java.util.Map;
import java.util.Set;

/** Each test quotes the document as it stands, and each sentence of the promises and the terms has a test. */
public final class SentencesCoveredTest {
    private static final Path DOCUMENT = Path.of("..", "shared", "DOC.md");
    private static final Check CHECK = new Check();

    /** Sentences of the terms that only tell what follows. */
    private static final Set<String> OPENINGS = Set.of("Texts are written sign by sign", "Ahead of the calls");

    private SentencesCoveredTest() {
    }

    public static void main(String[] args) throws IOException {
        if (!Files.isReadable(DOCUMENT)) {
            System.out.println("SentencesCoveredTest: there is no " + DOCUMENT + " to compare with");
            return;
        }
        Map<String, List<String>> sections = sections(Files.readString(DOCUMENT, StandardCharsets.UTF_8));
        CHECK.due("promises", 26L, () -> sections.keySet().stream().filter(s -> s.startsWith("Promise ")).count());
        List<Method> tests = SentenceRunner.everyTest();
        for (Method test : tests) {
            quotesTheDocument(test, sections);
        }
        sections.forEach((at, lines) -> {
            if (at.equals("Terms") || at.startsWith("Promise ")) {
                lines.forEach(line -> sentences(line).forEach(sentence -> hasATest(at, sentence, tests)));
            }
        });
        CHECK.end("SentencesCoveredTest");
    }

    /** The lines under each heading, a promise's heading cut behind its number. */
    private static Map<String, List<String>> sections(String document) {
        Map<String, List<String>> sections = new LinkedHashMap<>();
        List<String> lines = new ArrayList<>();
        for (String line : document.split("\n")) {
            if (line.startsWith("## ")) {
                lines = new ArrayList<>();
                sections.put(line.substring(3).replaceFirst("^(Promise \\d+):.*", "$1").trim(), lines);
            } else if (!line.isBlank()) {
                lines.add(line.trim().replaceFirst("^- ", "").replaceFirst("^`[^`]*\\([^`]*`: ", ""));
            }
        }
        return sections;
    }

    private static List<String> sentences(String line) {
        List<String> sentences = new ArrayList<>();
        for (String sentence : line.split("(?<=\\.) (?=[A-Z])")) {
            boolean onlyATitle = sentence.matches("\\w+\\.");
            if (!onlyATitle && OPENINGS.stream().noneMatch(sentence::startsWith)) {
                sentences.add(sentence);
            }
        }
        return sentences;
    }

    private static void quotesTheDocument(Method test, Map<String, List<String>> sections) {
        Sentence sentence = test.getAnnotation(Sentence.class);
        String named = sentence.at().replace("What it is", "whatItIs").replace("Terms", "terms")
                .replace("Promise ", "promise") + "_";
        CHECK.due(test.getName() + " is named by its promise", true, () -> test.getName().startsWith(named));
        String section = String.join(" ", sections.getOrDefault(sentence.at(), List.of()));
        CHECK.due(test.getName() + " quotes the document", true, () -> section.contains(sentence.says()));
    }

    private static void hasATest(String at, String sentence, List<Method> tests) {
        boolean has = tests.stream().map(test -> test.getAnnotation(Sentence.class))
                .anyMatch(quote -> quote.at().equals(at)
                        && (sentence.contains(quote.says()) || quote.says().contains(sentence)));
        CHECK.due(at + ", '" + sentence + "' has a test", true, () -> has);
    }
}
