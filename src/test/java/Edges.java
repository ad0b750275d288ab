import java.util.IdentityHashMap;
import java.util.List;
import java.util.Map;

/**
 * Asks new objects at an edge: of the class and, so that it is right itself, of the Model.
 * Each refused call is followed by a look at every answer, which must be as without that call.
 */
abstract class Edges extends Stories {
    static final Class<IndexOutOfBoundsException> INDEX = IndexOutOfBoundsException.class;
    static final Class<IllegalArgumentException> ARGUMENT = IllegalArgumentException.class;
    static final Class<IllegalStateException> STATE = IllegalStateException.class;
    static final int LEAST = Integer.MIN_VALUE;
    static final int MOST = Integer.MAX_VALUE;

    private final Check check;
    private final Map<Story, List<String>> seen = new IdentityHashMap<>();

    Edges(String name) {
        this(new Check(name));
    }

    Edges(Check check) {
        this.check = check;
    }

    /** Ints with no place among 0 to count - 1, from the nearest to the farthest. */
    static int[] outside(int count) {
        return new int[] {-1, count, -2, count + 1, LEAST, LEAST + 1, MOST - 1, MOST};
    }

    void end() {
        check.end();
    }

    void same(String what, long want, long got) {
        check.same(what, want, got);
    }

    void answers(String what, long want, Story before, Ask ask) {
        check.same(what, String.valueOf(want), outcome(new Counted(), before, ask));
        check.same(what + ", the model", String.valueOf(want), outcome(new Model(), before, ask));
    }

    void refuses(String what, Class<? extends RuntimeException> want, Story before, Ask ask) {
        String due = "throws " + want.getSimpleName();
        check.same(what, due, outcome(new Counted(), before, ask));
        check.same(what + ", the model", due, outcome(new Model(), before, ask));
        List<String> looks = seen.computeIfAbsent(before, story -> Looks.of(Counted::new, story));
        Story refused = x -> outcome(x, before, ask);
        String changed = Looks.difference(looks, Looks.of(Counted::new, refused));
        check.same(what + " was refused, then", "", changed);
    }

    /** Refused as the object is new, busy, full, and at the last second. */
    void refusesAlways(String what, Class<? extends RuntimeException> want, Ask ask) {
        for (int s = 0; s < ALL.length; s++) {
            refuses(what + " when " + NAMES[s], want, ALL[s], ask);
        }
    }

    /** What is told anew is what is kept, and each second of talk has one carrier and one payer. */
    void booksAgree(String what, Story before) {
        Exchange x = new Counted();
        before.tell(x);
        long charged = 0;
        int calls = x.calls();
        for (int call = 0; call < calls; call++) {
            int kept = x.charged(call);
            same(what + ", charged for call " + call, kept, x.chargedAnew(call));
            charged += kept;
        }
        x = new Counted();
        before.tell(x);
        for (int n = 0; n < 12; n++) {
            same(what + ", debt of number " + n, x.debt(n), x.debtAnew(n));
        }
        long earned = 0;
        for (int c = 0; c < 5; c++) {
            same(what + ", earned by carrier " + c, x.earned(c), x.earnedAnew(c));
            earned += x.earned(c);
        }
        long spent = 0;
        for (int p = 0; p < 6; p++) {
            same(what + ", spent by person " + p, x.spent(p), x.spentAnew(p));
            spent += x.spent(p);
        }
        same(what + ", one carrier", charged, earned);
        same(what + ", one payer", charged, spent);
    }

    private static String outcome(Exchange x, Story before, Ask ask) {
        before.tell(x);
        return Check.outcome(() -> ask.of(x));
    }
}
