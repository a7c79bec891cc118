import java.io.IOException;
import java.nio.file.Files;
import java.nio.file.Path;
import java.util.ArrayList;
import java.util.LinkedHashMap;
import java.util.List;
import java.util.Map;

/** The document's text under each headline, to see that every sentence of it is quoted by a test. */
final class Document {
    private final Map<String, String> texts = new LinkedHashMap<>();
    private final Map<String, boolean[]> quoted = new LinkedHashMap<>();

    /** Where the file isn't, there is nothing to compare with, and every quote is right. */
    Document(Path file) throws IOException {
        if (!Files.exists(file)) {
            System.out.println("no document at " + file + ": the quotes are not compared with it");
            return;
        }
        String headline = "";
        StringBuilder text = new StringBuilder();
        for (String line : Files.readAllLines(file)) {
            if (line.startsWith("## ")) {
                keep(headline, text.toString());
                headline = line.substring(3);
                text.setLength(0);
            } else if (!line.startsWith("```")) {
                text.append(line).append(' ');
            }
        }
        keep(headline, text.toString());
    }

    private void keep(String headline, String text) {
        // Behind the headline of a promise its method stands once more, and the parts of the terms are numbered.
        String plain = text.replaceAll("\\s+", " ").replaceFirst("^ `[^`]*`:", "").replaceAll("==== \\d\\.", "").replace("`", "");
        texts.put(headline, plain);
        quoted.put(headline, new boolean[plain.length()]);
    }

    boolean quote(String headline, String sentence) {
        if (texts.isEmpty()) {
            return true;
        }
        String text = texts.getOrDefault(headline, "");
        int at = text.indexOf(sentence);
        if (at < 0) {
            return false;
        }
        for (int i = at; i < at + sentence.length(); i++) {
            quoted.get(headline)[i] = true;
        }
        return true;
    }

    /** What no test quotes of the terms and the promises. */
    List<String> notQuoted() {
        List<String> left = new ArrayList<>();
        for (String headline : texts.keySet()) {
            if (headline.equals("Terms") || headline.startsWith("Promise ")) {
                addNotQuoted(left, headline);
            }
        }
        return left;
    }

    private void addNotQuoted(List<String> left, String headline) {
        StringBuilder run = new StringBuilder();
        String text = texts.get(headline);
        for (int i = 0; i <= text.length(); i++) {
            if (i < text.length() && !quoted.get(headline)[i]) {
                run.append(text.charAt(i));
            } else {
                if (run.chars().anyMatch(Character::isLetterOrDigit)) {
                    left.add(headline + ": " + run.toString().trim());
                }
                run.setLength(0);
            }
        }
    }
}
