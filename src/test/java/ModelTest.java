import java.util.Random;

/** Long runs of drawn calls, each answer of which must be the one of the Model. */
final class ModelTest {
    private static final int RUNS = 3000;
    private static final int MOST_CALLS = 512;
    private static final String[] CHANGES = {
        "setPrices", "setDelay", "setTrunk", "port", "sell", "bond", "pay", "judge", "call",
        "hangUp", "pass"};
    private static final String[] LOOKS = {
        "second", "isDear", "carrierOf", "carrierThen", "ownerOf", "believed", "debt", "debtAnew",
        "bondOf", "isBarred", "callOf", "free", "route", "calls", "lost", "state", "trunks",
        "carrierAt", "seconds", "charged", "chargedAnew", "coins", "earned", "earnedAnew", "spent",
        "spentAnew", "losses"};

    private final Check check;
    private final int run;
    private final Random random;
    private final int[] weights = new int[CHANGES.length];
    private final int longest;
    private final int odd;
    private final Model model = new Model();
    private final Counted x = new Counted();
    private int made = 0;

    private ModelTest(Check check, int run) {
        this.check = check;
        this.run = run;
        random = new Random(run);
        for (int i = 0; i < weights.length; i++) {
            weights[i] = 1 + random.nextInt(random.nextInt(4) == 0 ? 30 : 5);
        }
        weights[8] += random.nextInt(15);
        longest = new int[] {3, 40, 300, 2000, 2002}[random.nextInt(5)];
        odd = new int[] {0, 3, 25}[random.nextInt(3)];
    }

    public static void main(String[] args) {
        Check check = new Check("ModelTest");
        for (int run = 0; run < RUNS; run++) {
            new ModelTest(check, run).go();
        }
        check.end();
    }

    private void go() {
        int changes = 120 + random.nextInt(280);
        for (int i = 0; i < changes; i++) {
            String name = drawChange();
            ask(name, draw(name, 0), draw(name, 1), draw(name, 2));
        }
        while (made < MOST_CALLS) {
            String name = LOOKS[random.nextInt(LOOKS.length)];
            ask(name, draw(name, 0), draw(name, 1), draw(name, 2));
        }
    }

    private String drawChange() {
        int all = 0;
        for (int weight : weights) {
            all += weight;
        }
        int drawn = random.nextInt(all);
        int i = 0;
        while (drawn >= weights[i]) {
            drawn -= weights[i];
            i++;
        }
        return CHANGES[i];
    }

    private int draw(String name, int place) {
        if (random.nextInt(100) < odd) {
            int[] odds = {-1, 5, 6, 12, 10, 60, 5001, Integer.MIN_VALUE, Integer.MAX_VALUE};
            return odds[random.nextInt(odds.length)];
        }
        switch (name) {
            case "setPrices":
                return random.nextInt(place == 0 ? 5 : 10);
            case "setDelay":
                return place == 0 ? random.nextInt(5) : random.nextInt(random.nextBoolean() ? 5001 : 50);
            case "setTrunk":
                return place == 2 ? random.nextInt(4) : random.nextInt(5);
            case "port":
            case "believed":
                return random.nextInt(place == (name.equals("port") ? 0 : 1) ? 12 : 5);
            case "sell":
                return random.nextInt(place == 0 ? 12 : 6);
            case "bond":
                return place == 0 ? random.nextInt(12) : 1 + random.nextInt(random.nextBoolean() ? 5000 : 300);
            case "free":
                return random.nextInt(5);
            case "pass":
                return 1 + random.nextInt(longest);
            case "carrierThen":
                return place == 0 ? random.nextInt(12) : random.nextInt(model.second() + 1);
            case "coins":
            case "earned":
            case "earnedAnew":
            case "losses":
                return random.nextInt(5);
            case "spent":
            case "spentAnew":
                return random.nextInt(6);
            case "hangUp":
            case "state":
            case "trunks":
            case "carrierAt":
            case "seconds":
            case "charged":
            case "chargedAnew":
                return place == 0 ? random.nextInt(model.calls() + 1) : random.nextInt(4);
            default:
                return random.nextInt(12);
        }
    }

    private void ask(String name, int a, int drawn, int c) {
        int b = name.equals("pay") ? drawPaid(a, drawn) : drawn;
        String what = "run " + run + ", call " + made + " " + name + "(" + a + ", " + b + ", " + c + ")";
        String want = Check.outcome(() -> model.ask(name, a, b, c));
        made++;
        check.same(what, want, Check.outcome(() -> x.ask(name, a, b, c)));
    }

    private int drawPaid(int number, int drawn) {
        if (number < 0 || number >= 12 || random.nextInt(100) < odd) {
            return drawn;
        }
        int debt = model.debt(number);
        return random.nextBoolean() ? debt : 1 + random.nextInt(debt + 1);
    }
}
