/** What only tells, of each carrier, person and number, of none such, and of each second. */
final class LookEdgesTest extends Edges {
    private static final String[] OF_CARRIERS = {"coins", "earned", "earnedAnew", "losses"};
    private static final String[] OF_PERSONS = {"spent", "spentAnew"};
    private static final String[] OF_NUMBERS = {
        "carrierOf", "ownerOf", "debt", "debtAnew", "bondOf", "isBarred", "callOf"};

    private LookEdgesTest() {
        super("LookEdgesTest");
    }

    public static void main(String[] args) {
        LookEdgesTest test = new LookEdgesTest();
        test.go();
        test.end();
    }

    private void go() {
        for (int s = 0; s < ALL.length; s++) {
            String when = " when " + NAMES[s];
            ofAll(OF_CARRIERS, 5, ALL[s], when);
            ofAll(OF_PERSONS, 6, ALL[s], when);
            ofAll(OF_NUMBERS, 12, ALL[s], when);
            pairs("believed", 5, 12, ALL[s], when);
            pairs("free", 5, 5, ALL[s], when);
            pairs("route", 12, 12, ALL[s], when);
            secondsUpToNow(ALL[s], when);
        }
        placesInEachSecond();
        books();
    }

    /** "throws IndexOutOfBoundsException if there is no such one" */
    private void ofAll(String[] names, int count, Story story, String when) {
        for (String name : names) {
            for (int bad : outside(count)) {
                refuses(name + " of " + bad + when, INDEX, story, x -> x.ask(name, bad, 0, 0));
            }
            for (int good = 0; good < count; good++) {
                int one = good;
                Model model = new Model();
                story.tell(model);
                long want = model.ask(name, one, 0, 0);
                answers(name + " of " + one + when, want, story, x -> x.ask(name, one, 0, 0));
            }
        }
    }

    private void pairs(String name, int count, int others, Story story, String when) {
        for (int bad : outside(count)) {
            for (int other : new int[] {0, others - 1, others, -1, LEAST, MOST}) {
                String what = name + "(" + bad + ", " + other + ")" + when;
                refuses(what, INDEX, story, x -> x.ask(name, bad, other, 0));
            }
        }
        for (int bad : outside(others)) {
            for (int one : new int[] {0, count - 1}) {
                String what = name + "(" + one + ", " + bad + ")" + when;
                refuses(what, INDEX, story, x -> x.ask(name, one, bad, 0));
            }
        }
    }

    /** "second: 0 to the second of now" */
    private void secondsUpToNow(Story story, String when) {
        Counted told = new Counted();
        story.tell(told);
        int now = told.second();
        for (int second : outside(now + 1)) {
            String what = "carrierThen in " + second + when;
            refuses(what, ARGUMENT, story, x -> x.carrierThen(1, second));
        }
        for (int n : outside(12)) {
            refuses("carrierThen of " + n + when, INDEX, story, x -> x.carrierThen(n, 0));
        }
        for (int number = 0; number < 12; number++) {
            int n = number;
            int first = n == 1 && story == FULL ? 0 : n % 5;
            int last = told.carrierOf(n);
            answers("place in the first second" + when, first, story, x -> x.carrierThen(n, 0));
            answers("place now" + when, last, story, x -> x.carrierThen(n, now));
        }
    }

    private void placesInEachSecond() {
        Story ported = x -> {
            for (int i = 0; i < 8; i++) {
                x.port(3, i % 5 == 3 ? 0 : i % 5);
                if (i % 3 != 2) {
                    x.pass(5);
                }
            }
        };
        int[] ports = {0, 1, 2, 0, 4, 0, 1, 2};
        int[] starts = {0, 5, 10, 10, 15, 20, 20, 25};
        for (int second = 0; second <= 30; second++) {
            int s = second;
            int want = 3;
            for (int i = 0; i < ports.length; i++) {
                want = starts[i] <= second ? ports[i] : want;
            }
            answers("place in " + s, want, ported, x -> x.carrierThen(3, s));
            answers("place of another one in " + s, 3, ported, x -> x.carrierThen(8, s));
        }
        refuses("place in 31", ARGUMENT, ported, x -> x.carrierThen(3, 31));
        refuses("place in -1", ARGUMENT, ported, x -> x.carrierThen(3, -1));
    }

    /** Each book, with no call, with a call of no second, of one, and after all is paid. */
    private void books() {
        Story talk = x -> x.call(6, 1);
        Story one = both(talk, x -> x.pass(1));
        Story paid = both(one, x -> x.pay(6, 1));
        Story[] stories = {NEW, talk, one, paid};
        for (int s = 0; s < stories.length; s++) {
            int charged = s < 2 ? 0 : 1;
            answers("earned " + s, charged, stories[s], x -> x.earned(1));
            answers("earned anew " + s, charged, stories[s], x -> x.earnedAnew(1));
            answers("spent " + s, charged, stories[s], x -> x.spent(0));
            answers("spent anew " + s, charged, stories[s], x -> x.spentAnew(0));
            answers("debt " + s, s == 2 ? 1 : 0, stories[s], x -> x.debt(6));
            answers("debt anew " + s, s == 2 ? 1 : 0, stories[s], x -> x.debtAnew(6));
            answers("coins " + s, s == 3 ? 1 : 0, stories[s], x -> x.coins(1));
            answers("carriers but 1 " + s, 0, stories[s], x -> x.earned(0) + x.earnedAnew(2));
            answers("persons but 0 " + s, 0, stories[s], x -> x.spent(1) + x.spentAnew(5));
            answers("numbers but 6 " + s, 0, stories[s], x -> x.debt(1) + x.debtAnew(1));
        }
    }
}
