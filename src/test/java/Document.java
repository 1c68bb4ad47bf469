import java.io.IOException;
import java.nio.file.Files;
import java.nio.file.Path;
import java.util.ArrayList;
import java.util.LinkedHashMap;
import java.util.LinkedHashSet;
import java.util.List;
import java.util.Map;
import java.util.Set;

/**
 * The sentences of ../shared/DOC.md by their sections ("Terms", "Episode", .. and "1" to "32"), and which of
 * them have been named by a test. Sentences are cut at semicolons, too, since the errors are listed so.
 */
final class Document {
    private static final Path PLACE = Path.of("../shared/DOC.md");
    private static final Set<String> TERMS = Set.of("Terms", "Episode", "Listeners", "Links", "Texts");

    private final Map<String, List<String>> sentences = new LinkedHashMap<>();
    private final Set<String> untested = new LinkedHashSet<>();

    Document() throws IOException {
        if (!Files.exists(PLACE)) {
            System.out.println(PLACE + " is not there: nobody looks whether all its sentences have tests");
            return;
        }
        String section = "";
        StringBuilder paragraph = new StringBuilder();
        for (String line : (Files.readString(PLACE) + "\n\n").split("\n", -1)) {
            boolean isHeading = line.startsWith("#");
            if (line.isBlank() || isHeading || line.startsWith("- ")) {
                take(section, paragraph.toString());
                paragraph.setLength(0);
            }
            if (isHeading) {
                section = line.replaceAll("^#+ ", "").replaceAll("^Promise (\\d+):.*", "$1");
            } else {
                paragraph.append(line).append(' ');
            }
        }
    }

    private void take(String section, String paragraph) {
        boolean isPromise = section.matches("\\d+");
        if (!isPromise && !TERMS.contains(section)) {
            return;
        }
        String text = isPromise ? paragraph.replaceFirst("^`[^`]*`: ", "") : paragraph;
        for (String sentence : text.split("(?<=\\.|\\.\\)) +|; +")) {
            String plain = plain(sentence);
            boolean isHeading = plain.equals("CONVENTIONS") || plain.startsWith("Ahead of the calls");
            if (!plain.isEmpty() && !isHeading) {
                sentences.computeIfAbsent(section, name -> new ArrayList<>()).add(plain);
                untested.add(section + ": " + plain);
            }
        }
    }

    private static String plain(String words) {
        return words.trim().replaceAll(" +", " ").replaceAll("^\\(|\\.?\\)?\\.?$", "");
    }

    /** Answers whether the words are a part of the section, and takes its sentences with them as tested. */
    boolean isIn(String section, String words) {
        String named = plain(words);
        boolean found = false;
        for (String sentence : sentences.getOrDefault(section, List.of())) {
            if (sentence.contains(named)) {
                untested.remove(section + ": " + sentence);
                found = true;
            }
        }
        return found || sentences.isEmpty();
    }

    Set<String> untested() {
        return untested;
    }
}
