import java.util.ArrayList;
import java.util.List;
import java.util.NoSuchElementException;

/** Counts answers that are not the ones that are due, and tells each with the sentence that asks for it. */
final class Answers {
    private final List<String[]> quotes = new ArrayList<>();
    private String heading = "";
    private int wrong = 0;
    private int asked = 0;
    private int askedBefore = 0;

    /** From here on the answers are due by this sentence of the document, under this headline. */
    void sentence(String headline, String sentence) {
        endSentence();
        quotes.add(new String[] {headline, sentence});
        heading = headline + ": \"" + sentence + "\": ";
        askedBefore = asked;
    }

    private void endSentence() {
        if (!heading.isEmpty() && asked == askedBefore) {
            tell("no answer is asked for");
        }
        heading = "";
    }

    private void tell(String what) {
        wrong++;
        System.out.println(heading + what);
    }

    void due(String call, int got, int want) {
        asked++;
        if (got != want) {
            tell(call + " answered " + got + ", due is " + want);
        }
    }

    void due(String call, boolean got, boolean want) {
        asked++;
        if (got != want) {
            tell(call + " answered " + got + ", due is " + want);
        }
    }

    void due(String call, String got, String want) {
        asked++;
        if (!got.equals(want)) {
            tell(call + " answered " + got + ", due is " + want);
        }
    }

    void dueThrows(NameTurner x, int file, int what) {
        asked++;
        try {
            int got = x.of(file, what);
            tell("of(" + file + ", " + what + ") answered " + got + ", due is a throw");
        } catch (NoSuchElementException e) {
            return;
        }
    }

    /** Every quote stands in the document as it is, and no sentence of it is left out. */
    void compareWith(Document document) {
        endSentence();
        for (String[] quote : quotes) {
            if (!document.quote(quote[0], quote[1])) {
                tell("not in the document under " + quote[0] + ": " + quote[1]);
            }
        }
        for (String left : document.notQuoted()) {
            tell("a sentence without a test: " + left);
        }
    }

    void finish(String test) {
        endSentence();
        System.out.println(test + ": " + asked + " answers, " + wrong + " not as due");
        if (wrong != 0 || asked == 0) {
            System.exit(1);
        }
    }
}
