import java.io.IOException;
import java.nio.file.Files;
import java.nio.file.Path;
import java.util.LinkedHashMap;
import java.util.List;
import java.util.Map;
import java.util.function.Supplier;
import java.util.function.ToIntFunction;

/**
 * Holds answers against the document, sentence by sentence. A test names the sentence that it is
 * for: it must stand in the document, and at last no sentence may be left that no test is for.
 */
final class Sentences {
    private static final Path DOCUMENT = Path.of("../shared/DOC.md");

    private final Due due = new Due("SentencesTest");
    private final Map<String, String> sections = new LinkedHashMap<>();
    private final Map<String, boolean[]> said = new LinkedHashMap<>();
    private String section = "";
    private String sentence = "";
    private int tests;
    private int askedOfSentence;

    Sentences() throws IOException {
        String document = Files.readString(DOCUMENT);
        for (String part : document.split("(?m)^#+ ")) {
            int end = part.indexOf('\n');
            if (end >= 0) {
                put(part.substring(0, end).replaceAll(":.*", ""), part.substring(end));
            }
        }
    }

    private void put(String title, String words) {
        String text = words.replaceAll("(?m)^- ", "").replaceAll("\\s+", " ").trim();
        // What is ahead of the first sentence of a promise is the call's face, and this a heading.
        text = text.replace("The tree, the place A tree", "A tree")
                .replaceAll("^`(int \\w+|TreePlaces)\\([^`]*\\)`: ", "");
        sections.put(title, text);
        said.put(title, new boolean[text.length()]);
    }

    void in(String title) {
        section = title;
        due.holds("the document has no section " + title, sections.containsKey(title));
    }

    /** Begins the test of a sentence, or of the part of it that names one case. */
    void says(String words) {
        endTest();
        sentence = words;
        tests++;
        askedOfSentence = 0;
        String text = sections.getOrDefault(section, "");
        int at = text.indexOf(words);
        due.holds(section + " does not say: " + words, at >= 0);
        for (; at >= 0; at = text.indexOf(words, at + 1)) {
            for (int i = 0; i < words.length(); i++) {
                said.get(section)[at + i] = true;
            }
        }
    }

    private void endTest() {
        due.holds("nothing is asked for: " + sentence, tests == 0 || askedOfSentence > 0);
    }

    private String told(String call) {
        askedOfSentence++;
        return section + ", \"" + sentence + "\": " + call;
    }

    void is(String call, long got, long want) {
        due.is(told(call), got, want);
    }

    void is(String what, String got, String want) {
        due.is(told(what), got, want);
    }

    void holds(String what, boolean held) {
        due.holds(told(what), held);
    }

    /** A call that returns an error, which must leave everything as it was. */
    void refused(String call, Supplier<TreePlaces> making, ToIntFunction<TreePlaces> ask, int error) {
        is(call, ask.applyAsInt(making.get()), error);
        for (int way = 0; way < Told.WAYS; way++) {
            TreePlaces asked = making.get();
            ask.applyAsInt(asked);
            is("what there is after " + call, Told.by(way, asked), Told.by(way, making.get()));
        }
    }

    /** Every word from the terms to the last promise must have been said. */
    void end() {
        endTest();
        for (String title : sections.keySet()) {
            if (isPromised(title)) {
                due.is("what no test is for in " + title, unsaid(title), "");
            }
        }
        System.out.println("SentencesTest: " + tests + " tests, each for a sentence or a part of one");
        due.end();
    }

    private static boolean isPromised(String title) {
        return title.startsWith("Promise ")
                || List.of("Terms", "Walks", "Marks", "The clip", "Texts", "Changes and errors").contains(title);
    }

    private String unsaid(String title) {
        StringBuilder left = new StringBuilder();
        String text = sections.get(title);
        for (int i = 0; i < text.length(); i++) {
            boolean isWord = Character.isLetterOrDigit(text.charAt(i)) && !said.get(title)[i];
            left.append(isWord ? text.charAt(i) : ' ');
        }
        return left.toString().replaceAll(" +", " ").trim();
    }
}
