import java.io.IOException;
import java.nio.file.Files;
import java.nio.file.Path;
import java.util.ArrayList;
import java.util.LinkedHashMap;
import java.util.List;
import java.util.Map;

/** The document's sentences by its sections, and which of them the tests have quoted. */
final class Doc {
    private final Map<String, List<String>> sentences = new LinkedHashMap<>();
    private final Map<String, List<String>> quotes = new LinkedHashMap<>();

    Doc(Path file) throws IOException {
        String section = "";
        boolean isCode = false;
        for (String line : Files.readAllLines(file)) {
            isCode ^= line.startsWith("```");
            if (line.startsWith("## ")) {
                section = line.substring(3).replaceFirst(":.*", "");
            } else if (!line.isEmpty() && !line.startsWith("```") && !isCode) {
                sentences.computeIfAbsent(section, none -> new ArrayList<>()).addAll(sentencesOf(line));
            }
        }
    }

    /** A line without the declaration or the name that it begins with, cut at the ends of its sentences. */
    private static List<String> sentencesOf(String line) {
        String bare = line.replaceFirst("^(- )?`[^`]*`: ", "");
        return List.of(bare.split("(?<=[.;])\\s+(?=[A-Za-z0-9`])"));
    }

    boolean says(String section, String quote) {
        quotes.computeIfAbsent(section, none -> new ArrayList<>()).add(quote);
        for (String sentence : sentences.getOrDefault(section, List.of())) {
            if (sentence.contains(quote)) {
                return true;
            }
        }
        return false;
    }

    List<String> sections() {
        return List.copyOf(sentences.keySet());
    }

    List<String> sentencesIn(String section) {
        return sentences.getOrDefault(section, List.of());
    }

    boolean isQuoted(String section, String sentence) {
        for (String quote : quotes.getOrDefault(section, List.of())) {
            if (sentence.contains(quote)) {
                return true;
            }
        }
        return false;
    }
}
