import java.util.ArrayList;
import java.util.List;

/** Sentences of the document as they stand there, each followed by what shows that it holds. */
abstract class Sentences extends Edges {
    private final Check check;
    private final List<String> told = new ArrayList<>();
    private String heading = "";
    private String sentence = "";
    private int askedBefore = 0;

    Sentences(Check check) {
        super(check);
        this.check = check;
    }

    abstract void go() throws Exception;

    List<String> told() {
        needsCheck();
        return told;
    }

    private void needsCheck() {
        if (!sentence.isEmpty() && check.asked() == askedBefore) {
            check.fault("nothing shows: " + sentence);
        }
    }

    void under(String heading) {
        this.heading = heading;
    }

    void says(String... parts) {
        needsCheck();
        sentence = heading + " | " + String.join("", parts);
        told.add(sentence);
        askedBefore = check.asked();
    }

    /** A sentence that only takes promises back leaves nothing to ask for. */
    void leavesFree(String... parts) {
        says(parts);
        sentence = "";
    }

    void holds(long want, Story before, Ask ask) {
        answers(sentence, want, before, ask);
    }

    void holds(String want, String got) {
        check.same(sentence, want, got);
    }

    void refused(Class<? extends RuntimeException> want, Story before, Ask ask) {
        refuses(sentence, want, before, ask);
    }

    void refusedOutside(int count, Story before, AskOf ask) {
        for (int bad : outside(count)) {
            refused(INDEX, before, x -> ask.of(x, bad));
        }
    }

    void booksHold(Story before) {
        booksAgree(sentence, before);
    }

    /** One answer of an object about the one with that number. */
    interface AskOf {
        long of(Exchange x, int which);
    }
}
