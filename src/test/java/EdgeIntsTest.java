/**
 * Each method with each choice of ints at and beside an edge, on objects in several states: the
 * answer must be the Model's. An object goes on after refused calls, which must not change it.
 */
final class EdgeIntsTest {
    private static final int[] EDGE_INTS = {
        Integer.MIN_VALUE, Integer.MIN_VALUE + 1, -5000, -2, -1, 0, 1, 2, 3, 4, 5, 6, 7, 9, 10, 11,
        12, 13, 59, 60, 61, 1999, 2000, 2001, 4999, 5000, 5001, 19999, 20000, 20001,
        Integer.MAX_VALUE - 1, Integer.MAX_VALUE};
    private static final int[] NO_INT = {0};
    private static final String[] CHANGES_OF_3 = {"setPrices", "setTrunk"};
    private static final String[] CHANGES_OF_2 = {
        "setDelay", "port", "sell", "bond", "pay", "call"};
    private static final String[] CHANGES_OF_1 = {"judge", "hangUp", "pass"};
    private static final String[] LOOKS_OF_2 = {
        "carrierThen", "believed", "free", "route", "carrierAt"};
    private static final String[] LOOKS_OF_1 = {
        "carrierOf", "ownerOf", "debt", "debtAnew", "bondOf", "isBarred", "callOf", "state",
        "trunks", "seconds", "charged", "chargedAnew", "coins", "earned", "earnedAnew", "spent",
        "spentAnew", "losses"};
    private static final String[] LOOKS_OF_0 = {"second", "isDear", "calls", "lost"};

    private final Check check;
    private final Story story;
    private final String when;
    private Counted x;
    private Model model;

    private EdgeIntsTest(Check check, Story story, String when) {
        this.check = check;
        this.story = story;
        this.when = when;
    }

    public static void main(String[] args) {
        Check check = new Check("EdgeIntsTest");
        for (int s = 0; s < Stories.ALL.length; s++) {
            new EdgeIntsTest(check, Stories.ALL[s], Stories.NAMES[s]).go();
        }
        check.end();
    }

    private void go() {
        tellAnew();
        each(LOOKS_OF_0, NO_INT, NO_INT, NO_INT, false);
        each(LOOKS_OF_1, EDGE_INTS, NO_INT, NO_INT, false);
        each(LOOKS_OF_2, EDGE_INTS, EDGE_INTS, NO_INT, false);
        each(CHANGES_OF_1, EDGE_INTS, NO_INT, NO_INT, true);
        each(CHANGES_OF_2, EDGE_INTS, EDGE_INTS, NO_INT, true);
        each(CHANGES_OF_3, EDGE_INTS, EDGE_INTS, EDGE_INTS, true);
        each(LOOKS_OF_0, NO_INT, NO_INT, NO_INT, false);
    }

    private void each(String[] names, int[] firsts, int[] seconds, int[] thirds, boolean changes) {
        for (String name : names) {
            for (int a : firsts) {
                for (int b : seconds) {
                    for (int c : thirds) {
                        ask(name, a, b, c, changes);
                    }
                }
            }
        }
    }

    private void ask(String name, int a, int b, int c, boolean changes) {
        if (x.left() < 5) {
            tellAnew();
        }
        String what = name + "(" + a + ", " + b + ", " + c + ") when " + when;
        String want = Check.outcome(() -> model.ask(name, a, b, c));
        check.same(what, want, Check.outcome(() -> x.ask(name, a, b, c)));
        if (changes && !want.startsWith("throws")) {
            tellAnew();
        }
    }

    private void tellAnew() {
        x = new Counted();
        model = new Model();
        story.tell(x);
        story.tell(model);
    }
}
