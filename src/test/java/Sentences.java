import java.io.IOException;
import java.nio.file.Files;
import java.nio.file.Path;
import java.util.ArrayList;
import java.util.LinkedHashMap;
import java.util.List;
import java.util.Map;
import java.util.TreeSet;

/** The document by its sentences: each test names the promise and the sentence that it is of, and is told by itself. */
final class Sentences {
    interface Test {
        void run();
    }

    static final int PROMISES = 39;

    // The lines of each section, by the words in front of the colon of its heading.
    private final Map<String, List<String>> sections = new LinkedHashMap<>();
    private final Map<String, TreeSet<String>> tested = new LinkedHashMap<>();

    Sentences(Path document) throws IOException {
        List<String> section = new ArrayList<>();
        for (String line : Files.readAllLines(document)) {
            if (line.startsWith("## ")) {
                section = new ArrayList<>();
                sections.put(line.substring(3).split(":")[0], section);
            } else {
                section.add(line);
            }
        }
    }

    /** Tests a sentence of the section of a promise. */
    void promise(int number, String sentence, Test test) {
        test("Promise " + number, number, sentence, test);
    }

    /** Tests a sentence of the section 'Terms' where it shows in a promise. */
    void terms(int promise, String sentence, Test test) {
        test("Terms", promise, sentence, test);
    }

    /** Tests a sentence of the section 'What it is' where it shows in a promise. */
    void whatItIs(int promise, String sentence, Test test) {
        test("What it is", promise, sentence, test);
    }

    private void test(String section, int promise, String sentence, Test test) {
        String place = section.startsWith("Promise") ? section : "Promise " + promise + ", by '" + section + "'";
        int rightBefore = Check.rightAnswers();
        int wrongBefore = Check.wrongAnswers();
        Check.about(place + ": " + sentence);
        Check.same("the document says it there", textOf(section).contains(sentence), true);
        try {
            test.run();
        } catch (RuntimeException thrown) {
            Check.same("the test runs to its end", Check.told(thrown), "no exception");
        }
        Check.about("");
        tested.computeIfAbsent(section, name -> new TreeSet<>()).add(sentence);
        int wrong = Check.wrongAnswers() - wrongBefore;
        System.out.println((wrong == 0 ? "holds: " : "BROKEN: ") + place + ": " + sentence
                + " (" + (Check.rightAnswers() - rightBefore) + " answers as due, " + wrong + " not)");
    }

    private String textOf(String section) {
        return String.join(" ", sections.getOrDefault(section, List.of())).replaceAll("\\s+", " ");
    }

    /** Checks that no sentence was left without a test. */
    void allAreTested() {
        for (int promise = 1; promise <= PROMISES; promise++) {
            String section = "Promise " + promise;
            Check.same(section + " has a test", tested.containsKey(section), true);
            for (String sentence : sentencesOf(section)) {
                isTested(section, sentence);
            }
        }
        for (String section : List.of("What it is", "Terms")) {
            for (String sentence : textOf(section).split("(?<=\\.) ")) {
                // A lone word names its paragraph, and these long ones only say which calls stand together.
                if (sentence.strip().contains(" ") && !sentence.startsWith("Ahead of the calls")) {
                    isTested(section, sentence.strip());
                }
            }
        }
    }

    /** The sentences of a promise: what stands behind the call, what each line tells of an argument, and the others. */
    private List<String> sentencesOf(String section) {
        List<String> sentences = new ArrayList<>();
        String paragraphs = String.join("\n", sections.getOrDefault(section, List.of())).replace("\n- ", "\n\n- ");
        for (String paragraph : paragraphs.split("\n\\s*\n")) {
            String sentence = paragraph.replaceAll("\\s+", " ").strip();
            if (sentence.startsWith("`")) {
                sentence = sentence.substring(sentence.indexOf("`: ") + 3);
            }
            if (!sentence.isEmpty()) {
                sentences.add(sentence.startsWith("- ") ? sentence.substring(2) : sentence);
            }
        }
        return sentences;
    }

    private void isTested(String section, String sentence) {
        boolean isIn = tested.getOrDefault(section, new TreeSet<>()).contains(sentence);
        Check.same(section + ", a test of: " + sentence, isIn, true);
    }
}
