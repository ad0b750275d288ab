import java.util.ArrayList;
import java.util.List;

/** Each sentence of ../shared/DOC.md has a test of its own, in the document's order. */
final class SentencesTest {
    private SentencesTest() {
    }

    public static void main(String[] args) throws Exception {
        Check check = new Check("SentencesTest");
        Sentences[] parts = {
            new TermSentences(check), new ChangeSentences(check), new LookSentences(check)};
        List<String> told = new ArrayList<>();
        for (Sentences part : parts) {
            part.go();
            told.addAll(part.told());
        }
        check.same("sentences", "", Looks.difference(Doc.sentences(), told));
        check.same("many sentences", 1, told.size() > 150 ? 1 : 0);
        check.end();
    }
}
