/** Objects in the states that a call can meet; numbers 5 and 10 are free in each of them. */
abstract class Stories {
    static final Story NEW = x -> { };
    static final Story BUSY = Stories::busy;
    static final Story FULL = Stories::full;
    static final Story AT_END = Stories::atEnd;
    static final Story[] ALL = {NEW, BUSY, FULL, AT_END};
    static final String[] NAMES = {"new", "busy", "full", "at the last second"};

    /** Lets time go by up to that second, in as few calls as may be. */
    static long passTo(Exchange x, int second) {
        long sum = 0;
        for (int left = second - x.second(); left > 0; left -= 2000) {
            sum += x.pass(Math.min(left, 2000));
        }
        return sum;
    }

    static Story at(int second) {
        return x -> passTo(x, second);
    }

    /** The second of these after the first. */
    static Story both(Story first, Story second) {
        return x -> {
            first.tell(x);
            second.tell(x);
        };
    }

    /** Number 0 owes that many coins to carrier 0, and is in no call. */
    static Story owes(int debt) {
        return x -> {
            x.setPrices(0, 1, 1);
            x.call(0, 5);
            passTo(x, debt);
            x.hangUp(0);
        };
    }

    /** Number 0 owes that many coins to carrier 0, and has that bond. */
    static Story owes(int debt, int bond) {
        return both(debt > 0 ? owes(debt) : NEW, x -> {
            if (bond > 0) {
                x.bond(0, bond);
            }
        });
    }

    /** Number 1 goes from 1 to the last of these, and a carrier knows of its own part alone. */
    static Story chain(int... carriers) {
        return x -> {
            for (int c = 0; c < 5; c++) {
                x.setDelay(c, 5000);
            }
            for (int carrier : carriers) {
                x.port(1, carrier);
            }
        };
    }

    /** Calls that go on, ended or were lost, news on the way, debts, a bond, and a bar of 0. */
    private static void busy(Exchange x) {
        x.setDelay(3, 7);
        x.setDelay(1, 5000);
        x.setTrunk(0, 1, 1);
        x.setTrunk(2, 4, 0);
        x.setPrices(0, 9, 3);
        x.pass(470);
        x.call(0, 1);
        x.call(2, 3);
        x.pass(20);
        x.sell(0, 4);
        x.bond(2, 30);
        x.port(2, 1);
        x.setPrices(1, 5, 0);
        x.pass(5);
        x.hangUp(0);
        x.judge(0);
        x.call(4, 7);
        x.call(4, 8);
        x.setTrunk(3, 4, 0);
        x.call(9, 11);
        x.pass(3);
        x.port(7, 4);
        x.sell(6, 5);
    }

    /** All that can be done 60 times was done; two calls go on. */
    private static void full(Exchange x) {
        for (int i = 0; i < 60; i++) {
            x.setPrices(i % 5, i % 10, (i + 3) % 10);
            x.port(1, i % 2 == 0 ? 0 : 1);
            x.sell(3, i % 2 == 0 ? 5 : 3);
            if (i == 30) {
                x.pass(477);
            }
        }
        for (int call = 0; call < 58; call++) {
            x.call(10, 5);
            if (call == 40) {
                x.pass(3);
            }
            x.hangUp(call);
        }
        x.call(2, 3);
        x.call(4, 8);
        x.pass(50);
    }

    private static void atEnd(Exchange x) {
        x.call(0, 1);
        x.call(2, 7);
        x.pass(1000);
        x.port(1, 3);
        x.sell(0, 5);
        passTo(x, 19999);
        x.port(6, 4);
        x.setPrices(0, 7, 8);
        x.pass(1);
    }
}
