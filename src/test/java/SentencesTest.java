import java.io.IOException;
import java.nio.file.Path;

/**
 * The document sentence by sentence: each one that names a bound or a refusal has a test of its own, on both
 * sides of the bound. That every sentence of the terms and the promises is quoted is compared with the document.
 */
public final class SentencesTest {
    public static void main(String[] args) throws IOException {
        Answers a = new Answers();
        NameSentences.all(a);
        RuleSentences.all(a);
        PlanSentences.all(a);
        StepSentences.all(a);
        StoreCallSentences.all(a);
        RuleCallSentences.all(a);
        PlanCallSentences.all(a);
        LookCallSentences.all(a);
        a.compareWith(new Document(Path.of("../shared/DOC.md")));
        a.finish("SentencesTest");
    }
}
