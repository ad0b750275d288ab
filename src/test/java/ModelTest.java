import java.util.Random;

/** Long runs of drawn calls, each answer of which must be the one of the Model. */
final class ModelTest {
    private static final int RUNS = 3000;
    private static final int MOST_CALLS = 512;
    private static final String[] CHANGES = {
        "setPrices", "setDelay", "setTrunk", "port", "sell", "bond", "pay", "judge", "call",
        "hangUp", "pass"};
    private static final String[] LOOKS = {
        "second", "isDear", "carrierOf", "carrierThen", "ownerOf", "believed", "debt", "debtAnew",
        "bondOf", "isBarred", "callOf", "free", "route", "calls", "lost", "state", "trunks",
        "carrierAt", "seconds", "charged", "chargedAnew", "coins", "earned", "earnedAnew", "spent",
        "spentAnew", "losses"};

    private final Check check;
    private final int run;
    private final Random random;
    private final int[] weights = new int[CHANGES.length];
    private final int longest;
    private final int odd;
    private final Model model = new Model();
    private final CarriedNumbers x = new CarriedNumbers();
    private int made = 0;

    private ModelTest(Check check, int run) {
        this.check = check;
        this.run = run;
        random = new Random(run);
        for (int i = 0; i < weights.length; i++) {
            weights[i] = 1 + random.nextInt(random.nextInt(4) == 0 ? 30 : 5);
        }
        weights[8] += random.nextInt(15);
        longest = new int[] {3, 40, 300, 2000, 2002}[random.nextInt(5)];
        odd = new int[] {0, 3, 25}[random.nextInt(3)];
    }

    public static void main(String[] args) {
        Check check = new Check("ModelTest");
        for (int run = 0; run < RUNS; run++) {
            new ModelTest(check, run).go();
        }
        check.end();
    }

    private void go() {
        int changes = 120 + random.nextInt(280);
        for (int i = 0; i < changes; i++) {
            String name = drawChange();
            ask(name, draw(name, 0), draw(name, 1), draw(name, 2));
        }
        while (made < MOST_CALLS) {
            String name = LOOKS[random.nextInt(LOOKS.length)];
            ask(name, draw(name, 0), draw(name, 1), draw(name, 2));
        }
    }

    private String drawChange() {
        int all = 0;
        for (int weight : weights) {
            all += weight;
        }
        int drawn = random.nextInt(all);
        int i = 0;
        while (drawn >= weights[i]) {
            drawn -= weights[i];
            i++;
        }
        return CHANGES[i];
    }

    private int draw(String name, int place) {
        if (random.nextInt(100) < odd) {
            int[] odds = {-1, 5, 6, 12, 10, 60, 5001, Integer.MIN_VALUE, Integer.MAX_VALUE};
            return odds[random.nextInt(odds.length)];
        }
        switch (name) {
            case "setPrices":
                return random.nextInt(place == 0 ? 5 : 10);
            case "setDelay":
                return place == 0 ? random.nextInt(5) : random.nextInt(random.nextBoolean() ? 5001 : 50);
            case "setTrunk":
                return place == 2 ? random.nextInt(4) : random.nextInt(5);
            case "port":
            case "believed":
                return random.nextInt(place == (name.equals("port") ? 0 : 1) ? 12 : 5);
            case "sell":
                return random.nextInt(place == 0 ? 12 : 6);
            case "bond":
                return place == 0 ? random.nextInt(12) : 1 + random.nextInt(random.nextBoolean() ? 5000 : 300);
            case "free":
                return random.nextInt(5);
            case "pass":
                return 1 + random.nextInt(longest);
            case "carrierThen":
                return place == 0 ? random.nextInt(12) : random.nextInt(model.second() + 1);
            case "coins":
            case "earned":
            case "earnedAnew":
            case "losses":
                return random.nextInt(5);
            case "spent":
            case "spentAnew":
                return random.nextInt(6);
            case "hangUp":
            case "state":
            case "trunks":
            case "carrierAt":
            case "seconds":
            case "charged":
            case "chargedAnew":
                return place == 0 ? random.nextInt(model.calls() + 1) : random.nextInt(4);
            default:
                return random.nextInt(12);
        }
    }

    private void ask(String name, int a, int b, int c) {
        int first = a;
        int second = b;
        if (name.equals("pay") && a >= 0 && a < 12 && random.nextInt(100) >= odd) {
            int debt = model.debt(a);
            second = random.nextBoolean() ? debt : 1 + random.nextInt(debt + 1);
        }
        String what = "run " + run + ", call " + made + " " + name + "(" + first + ", " + second + ", " + c + ")";
        String want = Check.outcome(new Due(name, first, second, c));
        made++;
        check.same(what, want, Check.outcome(new Given(name, first, second, c)));
    }

    private final class Given implements Check.Answer {
        private final String name;
        private final int a;
        private final int b;
        private final int c;

        Given(String name, int a, int b, int c) {
            this.name = name;
            this.a = a;
            this.b = b;
            this.c = c;
        }

        @Override
        public long get() {
            switch (name) {
                case "setPrices": return x.setPrices(a, b, c);
                case "setDelay": return x.setDelay(a, b);
                case "setTrunk": return x.setTrunk(a, b, c);
                case "port": return x.port(a, b);
                case "sell": return x.sell(a, b);
                case "bond": return x.bond(a, b);
                case "pay": return x.pay(a, b);
                case "judge": return x.judge(a);
                case "call": return x.call(a, b);
                case "hangUp": return x.hangUp(a);
                case "pass": return x.pass(a);
                case "second": return x.second();
                case "isDear": return x.isDear() ? 1 : 0;
                case "carrierOf": return x.carrierOf(a);
                case "carrierThen": return x.carrierThen(a, b);
                case "ownerOf": return x.ownerOf(a);
                case "believed": return x.believed(a, b);
                case "debt": return x.debt(a);
                case "debtAnew": return x.debtAnew(a);
                case "bondOf": return x.bondOf(a);
                case "isBarred": return x.isBarred(a) ? 1 : 0;
                case "callOf": return x.callOf(a);
                case "free": return x.free(a, b);
                case "route": return x.route(a, b);
                case "calls": return x.calls();
                case "lost": return x.lost();
                case "state": return x.state(a);
                case "trunks": return x.trunks(a);
                case "carrierAt": return x.carrierAt(a, b);
                case "seconds": return x.seconds(a);
                case "charged": return x.charged(a);
                case "chargedAnew": return x.chargedAnew(a);
                case "coins": return x.coins(a);
                case "earned": return x.earned(a);
                case "earnedAnew": return x.earnedAnew(a);
                case "spent": return x.spent(a);
                case "spentAnew": return x.spentAnew(a);
                case "losses": return x.losses(a);
                default: throw new UnsupportedOperationException(name);
            }
        }
    }

    private final class Due implements Check.Answer {
        private final String name;
        private final int a;
        private final int b;
        private final int c;

        Due(String name, int a, int b, int c) {
            this.name = name;
            this.a = a;
            this.b = b;
            this.c = c;
        }

        @Override
        public long get() {
            switch (name) {
                case "setPrices": return model.setPrices(a, b, c);
                case "setDelay": return model.setDelay(a, b);
                case "setTrunk": return model.setTrunk(a, b, c);
                case "port": return model.port(a, b);
                case "sell": return model.sell(a, b);
                case "bond": return model.bond(a, b);
                case "pay": return model.pay(a, b);
                case "judge": return model.judge(a);
                case "call": return model.call(a, b);
                case "hangUp": return model.hangUp(a);
                case "pass": return model.pass(a);
                case "second": return model.second();
                case "isDear": return model.isDear();
                case "carrierOf": return model.carrierOf(a);
                case "carrierThen": return model.carrierThen(a, b);
                case "ownerOf": return model.ownerOf(a);
                case "believed": return model.believed(a, b);
                case "debt":
                case "debtAnew": return debtOf(a);
                case "bondOf": return model.bondOf(a);
                case "isBarred": return model.isBarred(a);
                case "callOf": return model.callOf(a);
                case "free": return model.free(a, b);
                case "route": return model.route(a, b);
                case "calls": return model.calls();
                case "lost": return model.lost();
                case "state": return model.stateOf(a);
                case "trunks": return model.trunks(a);
                case "carrierAt": return model.carrierAt(a, b);
                case "seconds": return model.seconds(a);
                case "charged":
                case "chargedAnew": return model.charged(a);
                case "coins": return model.coins(a);
                case "earned":
                case "earnedAnew": return model.earned(a);
                case "spent":
                case "spentAnew": return model.spent(a);
                case "losses": return model.losses(a);
                default: throw new UnsupportedOperationException(name);
            }
        }

        private long debtOf(int number) {
            model.carrierOf(number);
            return model.debt(number);
        }
    }
}
