import java.util.ArrayList;
import java.util.LinkedHashMap;
import java.util.List;
import java.util.Map;

/** The document by its headings, and each by its sentences, to see which of them have a test. */
final class Document {
    private final Map<String, String> sections = new LinkedHashMap<>();
    private final Map<String, List<String>> quotes = new LinkedHashMap<>();

    Document(String text) {
        for (String section : text.split("(?m)^#+ ")) {
            String[] parts = section.split("\n", 2);
            String name = parts[0].replaceAll("Promise (\\d+):.*", "$1").trim();
            if (parts.length == 2 && !parts[1].isBlank()) {
                sections.put(name, parts[1]);
                quotes.put(name, new ArrayList<>());
            }
        }
    }

    private static String squeezed(String text) {
        return text.replaceAll("\\s+", " ").trim();
    }

    /** Tells whether the words stand there; they are noted as tested. */
    boolean quotes(String section, String words) {
        if (!sections.containsKey(section) || !squeezed(sections.get(section)).contains(squeezed(words))) {
            return false;
        }
        quotes.get(section).add(squeezed(words));
        return true;
    }

    /** The sentences of which no case quotes anything. */
    List<String> untested() {
        List<String> untested = new ArrayList<>();
        for (String section : sections.keySet()) {
            for (String sentence : sentencesOf(section)) {
                if (quotes.get(section).stream().noneMatch(words -> isOf(words, sentence))) {
                    untested.add(section + ": " + sentence);
                }
            }
        }
        return untested;
    }

    private static boolean isOf(String words, String sentence) {
        return words.contains(sentence) || sentence.contains(words);
    }

    /** In a promise each part of "Returns ..; .. if ..; .. if .." counts as a sentence, too. */
    private List<String> sentencesOf(String section) {
        List<String> sentences = new ArrayList<>();
        String text = sections.get(section).replaceAll("(?s)```.*?```", "");
        for (String paragraph : text.split("\n\n|\n(?=- )")) {
            String end = section.matches("\\d+") && paragraph.startsWith("Returns") ? ";" : "(?<=\\.|\\.\\)) (?=[A-Z(])";
            for (String sentence : squeezed(paragraph).split(end)) {
                if (!sentence.isBlank()) {
                    sentences.add(sentence.trim());
                }
            }
        }
        return sentences;
    }
}
