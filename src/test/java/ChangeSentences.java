/** Promises 1 to 12, sentence by sentence: a new object and what changes it. */
final class ChangeSentences extends Sentences {
    private static final String NO_CARRIER =
        "Throws `IndexOutOfBoundsException` if there is no such carrier";
    private static final String NO_NUMBER =
        "Throws `IndexOutOfBoundsException` if there is no such number";
    private static final String NO_CALL =
        "Throws `IndexOutOfBoundsException` if there is no such call";
    private static final String BOTH_SAME =
        "Throws `IllegalArgumentException` if both are the same";

    ChangeSentences(Check check) {
        super(check);
    }

    @Override
    void go() {
        newObject();
        setPrices();
        setDelay();
        setTrunk();
        port();
        sell();
        bond();
        pay();
        judge();
        call();
        callRefused();
        hangUp();
        pass();
    }

    private void newObject() {
        under("Promise 1: A new object");
        says("The second 0; no calls.");
        holds(0, NEW, x -> x.second());
        holds(0, NEW, x -> x.calls());
        holds(0, NEW, x -> x.lost());
        refused(INDEX, NEW, x -> x.state(0));
        for (int number = 0; number < 12; number++) {
            int n = number;
            holds(-1, NEW, x -> x.callOf(n));
        }
    }

    private void setPrices() {
        under("Promise 2: setPrices");
        says("Sets the prices of a carrier.");
        Story set = x -> x.setPrices(0, 8, 3);
        holds(3, both(set, x -> x.call(0, 5)), x -> x.pass(1));
        holds(8, both(at(480), both(set, x -> x.call(0, 5))), x -> x.pass(1));
        says("- `carrier`: the carrier");
        for (int carrier = 0; carrier < 5; carrier++) {
            int c = carrier;
            for (int other = 0; other < 5; other++) {
                int o = other;
                Story talk = both(x -> x.setPrices(c, 8, 3), x -> x.call(o, o + 5));
                holds(c == o ? 3 : 1, talk, x -> x.pass(1));
            }
        }
        pricesInRange();
        says("Returns the dear price before.");
        holds(2, NEW, x -> x.setPrices(0, 8, 3));
        holds(8, set, x -> x.setPrices(0, 7, 5));
        holds(8, both(set, x -> x.pass(1)), x -> x.setPrices(0, 7, 5));
        holds(2, set, x -> x.setPrices(1, 7, 5));
        setPricesRefused();
    }

    private void pricesInRange() {
        says("- `dear`: 0 to 9");
        for (int dear = 0; dear <= 9; dear++) {
            int price = dear;
            Story talk = x -> {
                x.setPrices(0, price, 4);
                x.call(0, 5);
            };
            holds(price, both(at(480), talk), x -> x.pass(1));
        }
        refused(ARGUMENT, NEW, x -> x.setPrices(0, -1, 4));
        refused(ARGUMENT, NEW, x -> x.setPrices(0, 10, 4));
        says("- `cheap`: 0 to 9");
        for (int cheap = 0; cheap <= 9; cheap++) {
            int price = cheap;
            holds(price, x -> {
                x.setPrices(0, 4, price);
                x.call(0, 5);
            }, x -> x.pass(1));
        }
        refused(ARGUMENT, NEW, x -> x.setPrices(0, 4, -1));
        refused(ARGUMENT, NEW, x -> x.setPrices(0, 4, 10));
    }

    private void setPricesRefused() {
        says(NO_CARRIER);
        refusedOutside(5, BUSY, (x, c) -> x.setPrices(c, 1, 1));
        says("Throws `IllegalArgumentException` if dear or cheap is out of range");
        for (int bad : outside(10)) {
            refused(ARGUMENT, BUSY, x -> x.setPrices(4, bad, 0));
            refused(ARGUMENT, BUSY, x -> x.setPrices(4, 9, bad));
            refused(ARGUMENT, BUSY, x -> x.setPrices(4, bad, bad));
        }
        says("Throws `IllegalStateException` if prices were set 60 times, by all carriers ",
            "together");
        Story set59 = x -> {
            for (int i = 0; i < 59; i++) {
                x.setPrices(i % 5, 2, 1);
            }
        };
        holds(2, set59, x -> x.setPrices(4, 2, 1));
        Story set60 = both(set59, x -> x.setPrices(4, 2, 1));
        for (int carrier = 0; carrier < 5; carrier++) {
            int c = carrier;
            refused(STATE, set60, x -> x.setPrices(c, 3, 3));
        }
    }

    private void setDelay() {
        under("Promise 3: setDelay");
        says("Sets the delay of a carrier, for ports to come.");
        Story set = x -> x.setDelay(2, 7);
        Story later = both(set, x -> x.port(0, 1));
        holds(0, both(later, at(6)), x -> x.believed(2, 0));
        holds(1, both(later, at(7)), x -> x.believed(2, 0));
        Story before = both(x -> x.port(0, 1), set);
        holds(0, both(before, at(99)), x -> x.believed(2, 0));
        holds(1, both(before, at(100)), x -> x.believed(2, 0));
        says("- `carrier`: the carrier");
        for (int carrier = 0; carrier < 5; carrier++) {
            int c = carrier;
            for (int other = 0; other < 5; other++) {
                int o = other;
                holds(c == o ? 7 : 100, x -> x.setDelay(c, 7), x -> x.setDelay(o, 0));
            }
        }
        says("- `seconds`: 0 to 5000");
        for (int seconds : new int[] {0, 1, 4999, 5000}) {
            Story ported = x -> {
                x.setDelay(2, seconds);
                x.port(0, 1);
            };
            holds(1, both(ported, at(seconds)), x -> x.believed(2, 0));
            holds(seconds == 0 ? 1 : 0, both(ported, at(seconds - 1)), x -> x.believed(2, 0));
        }
        refused(ARGUMENT, NEW, x -> x.setDelay(2, -1));
        refused(ARGUMENT, NEW, x -> x.setDelay(2, 5001));
        says("Returns the delay before.");
        holds(100, NEW, x -> x.setDelay(2, 7));
        holds(7, set, x -> x.setDelay(2, 9));
        says(NO_CARRIER);
        refusedOutside(5, BUSY, (x, c) -> x.setDelay(c, 7));
        says("Throws `IllegalArgumentException` if seconds is out of range");
        for (int bad : outside(5001)) {
            refused(ARGUMENT, BUSY, x -> x.setDelay(2, bad));
        }
    }

    private void setTrunk() {
        under("Promise 4: setTrunk");
        says("Sets the lines of a trunk.");
        Story set = x -> x.setTrunk(1, 3, 4);
        holds(4, set, x -> x.free(1, 3));
        holds(4, set, x -> x.free(3, 1));
        holds(3, both(set, x -> x.call(1, 3)), x -> x.free(1, 3));
        for (String side : new String[] {"- `carrier`: a carrier", "- `other`: another one"}) {
            says(side);
            for (int carrier = 0; carrier < 5; carrier++) {
                for (int other = 0; other < 5; other++) {
                    trunkOf(carrier, other);
                }
            }
        }
        says("- `lines`: 0 to 5");
        for (int lines = 0; lines <= 5; lines++) {
            int l = lines;
            holds(l, x -> x.setTrunk(1, 3, l), x -> x.free(1, 3));
        }
        refused(ARGUMENT, NEW, x -> x.setTrunk(1, 3, -1));
        refused(ARGUMENT, NEW, x -> x.setTrunk(1, 3, 6));
        says("Returns how many calls are lost by that.");
        Story talks = x -> {
            x.call(0, 1);
            x.call(5, 6);
            x.call(2, 3);
        };
        int[] lost = {2, 1, 0, 0, 0, 0};
        for (int lines = 0; lines <= 5; lines++) {
            int l = lines;
            holds(lost[l], talks, x -> x.setTrunk(0, 1, l));
        }
        holds(0, both(talks, x -> x.setTrunk(0, 1, 0)), x -> x.setTrunk(0, 1, 0));
        setTrunkRefused();
    }

    private void setTrunkRefused() {
        says(NO_CARRIER);
        refusedOutside(5, BUSY, (x, c) -> x.setTrunk(c, 0, 1));
        refusedOutside(5, BUSY, (x, c) -> x.setTrunk(0, c, 1));
        says("Throws `IllegalArgumentException` if both are the same, or lines is out of range");
        for (int carrier = 0; carrier < 5; carrier++) {
            int c = carrier;
            refused(ARGUMENT, BUSY, x -> x.setTrunk(c, c, 1));
        }
        for (int bad : outside(6)) {
            refused(ARGUMENT, BUSY, x -> x.setTrunk(0, 1, bad));
        }
    }

    private void trunkOf(int c, int o) {
        if (c == o) {
            refused(ARGUMENT, NEW, x -> x.setTrunk(c, o, 4));
            return;
        }
        int third = (c + 1) % 5 == o ? (c + 2) % 5 : (c + 1) % 5;
        holds(4, x -> x.setTrunk(c, o, 4), x -> x.free(c, o));
        holds(2, x -> x.setTrunk(c, o, 4), x -> x.free(c, third));
        holds(2, x -> x.setTrunk(c, o, 4), x -> x.free(third, o));
    }

    private void port() {
        under("Promise 5: port");
        says("Carries a number to another carrier.");
        holds(3, x -> x.port(0, 3), x -> x.carrierOf(0));
        holds(4, both(x -> x.port(0, 3), x -> x.port(0, 4)), x -> x.carrierOf(0));
        says("- `number`: the number");
        for (int number = 0; number < 12; number++) {
            int n = number;
            Story ported = x -> x.port(n, (n + 2) % 5);
            holds((n + 2) % 5, ported, x -> x.carrierOf(n));
            holds((n + 1) % 12 % 5, ported, x -> x.carrierOf((n + 1) % 12));
        }
        says("- `carrier`: the carrier");
        for (int carrier = 0; carrier < 4; carrier++) {
            int c = carrier;
            holds(c, x -> x.port(4, c), x -> x.carrierOf(4));
        }
        says("Returns the debt that goes along.");
        holds(0, NEW, x -> x.port(0, 1));
        holds(10, owes(10, 20), x -> x.port(0, 1));
        holds(6, both(owes(10, 20), x -> x.pay(0, 4)), x -> x.port(0, 1));
        holds(0, owes(10, 20), x -> x.port(5, 1));
        says("Throws `IndexOutOfBoundsException` if there is no such number or carrier");
        refusedOutside(12, BUSY, (x, n) -> x.port(n, 3));
        refusedOutside(5, BUSY, (x, c) -> x.port(5, c));
        says("Throws `IllegalStateException` if the number is there, its bond is less than its ",
            "debt, or 60 ports were made");
        refused(STATE, NEW, x -> x.port(7, 2));
        refused(STATE, x -> x.port(7, 3), x -> x.port(7, 3));
        refused(STATE, owes(10, 9), x -> x.port(0, 1));
        holds(10, owes(10, 10), x -> x.port(0, 1));
        Story ported59 = x -> {
            for (int i = 0; i < 59; i++) {
                x.port(1, i % 2 == 0 ? 0 : 1);
            }
        };
        holds(0, ported59, x -> x.port(2, 0));
        refused(STATE, both(ported59, x -> x.port(2, 0)), x -> x.port(3, 0));
    }

    private void sell() {
        under("Promise 6: sell");
        says("Sells a number.");
        holds(3, x -> x.sell(0, 3), x -> x.ownerOf(0));
        Story talk = both(x -> x.sell(0, 3), x -> x.call(0, 5));
        holds(1, talk, x -> x.pass(1) - 1 + x.spent(3));
        says("- `number`: the number");
        for (int number = 0; number < 12; number++) {
            int n = number;
            Story sold = x -> x.sell(n, (n + 2) % 6);
            holds((n + 2) % 6, sold, x -> x.ownerOf(n));
            holds((n + 1) % 6, sold, x -> x.ownerOf((n + 1) % 12));
        }
        says("- `person`: to whom");
        for (int person = 0; person < 5; person++) {
            int p = person;
            holds(p, x -> x.sell(5, p), x -> x.ownerOf(5));
        }
        says("Returns the person who owned it.");
        holds(5, NEW, x -> x.sell(11, 0));
        holds(0, x -> x.sell(11, 0), x -> x.sell(11, 4));
        says("Throws `IndexOutOfBoundsException` if there is no such number or person");
        refusedOutside(12, BUSY, (x, n) -> x.sell(n, 3));
        refusedOutside(6, BUSY, (x, p) -> x.sell(5, p));
        says("Throws `IllegalStateException` if that person owns it, or 60 were sold");
        refused(STATE, NEW, x -> x.sell(7, 1));
        refused(STATE, x -> x.sell(7, 3), x -> x.sell(7, 3));
        Story sold59 = x -> {
            for (int i = 0; i < 59; i++) {
                x.sell(1, i % 2 == 0 ? 0 : 1);
            }
        };
        holds(2, sold59, x -> x.sell(2, 0));
        refused(STATE, both(sold59, x -> x.sell(2, 0)), x -> x.sell(3, 0));
    }

    private void bond() {
        under("Promise 7: bond");
        says("Adds coins to the bond of a number.");
        holds(7, both(x -> x.bond(0, 3), x -> x.bond(0, 4)), x -> x.bondOf(0));
        says("- `number`: the number");
        for (int number = 0; number < 12; number++) {
            int n = number;
            holds(3, x -> x.bond(n, 3), x -> x.bondOf(n));
            holds(0, x -> x.bond(n, 3), x -> x.bondOf((n + 1) % 12));
        }
        says("- `coins`: 1 to 5000");
        for (int coins : new int[] {1, 2, 4999, 5000}) {
            holds(coins, x -> x.bond(0, coins), x -> x.bondOf(0));
        }
        refused(ARGUMENT, NEW, x -> x.bond(0, 0));
        refused(ARGUMENT, NEW, x -> x.bond(0, 5001));
        says("Returns the bond then.");
        holds(3, NEW, x -> x.bond(0, 3));
        holds(7, x -> x.bond(0, 3), x -> x.bond(0, 4));
        holds(9, both(owes(5, 10), x -> x.judge(0)), x -> x.bond(0, 4));
        says(NO_NUMBER);
        refusedOutside(12, BUSY, (x, n) -> x.bond(n, 1));
        says("Throws `IllegalArgumentException` if coins is out of range");
        for (int bad : new int[] {0, -1, 5001, LEAST, MOST}) {
            refused(ARGUMENT, BUSY, x -> x.bond(0, bad));
        }
        says("Throws `IllegalStateException` if the bond would be above 5000");
        refused(STATE, x -> x.bond(0, 5000), x -> x.bond(0, 1));
        refused(STATE, x -> x.bond(0, 1), x -> x.bond(0, 5000));
        holds(5000, x -> x.bond(0, 1), x -> x.bond(0, 4999));
    }

    private void pay() {
        under("Promise 8: pay");
        says("Pays for a number.");
        Story paid = both(owes(10), x -> x.pay(0, 3));
        holds(7, paid, x -> x.debt(0));
        holds(7, paid, x -> x.debtAnew(0));
        holds(3, paid, x -> x.coins(0));
        says("- `number`: the number");
        for (int number = 0; number < 12; number++) {
            int n = number;
            Story owing = x -> {
                x.call(n, (n + 1) % 12);
                x.pass(9);
            };
            holds(5, owing, x -> x.pay(n, 4));
            holds(4, both(owing, x -> x.pay(n, 4)), x -> x.coins(n % 5));
            refused(ARGUMENT, owing, x -> x.pay((n + 1) % 12, 4));
        }
        says("- `coins`: 1 to its debt");
        holds(9, owes(10), x -> x.pay(0, 1));
        holds(0, owes(10), x -> x.pay(0, 10));
        refused(ARGUMENT, owes(10), x -> x.pay(0, 0));
        refused(ARGUMENT, owes(10), x -> x.pay(0, 11));
        says("Returns the debt then.");
        holds(7, owes(10), x -> x.pay(0, 3));
        holds(2, paid, x -> x.pay(0, 5));
        says(NO_NUMBER);
        refusedOutside(12, BUSY, (x, n) -> x.pay(n, 1));
        says("Throws `IllegalArgumentException` if coins is out of range");
        for (int bad : new int[] {0, -1, 11, LEAST, MOST}) {
            refused(ARGUMENT, owes(10), x -> x.pay(0, bad));
        }
        refused(ARGUMENT, NEW, x -> x.pay(0, 1));
    }

    private void judge() {
        under("Promise 9: judge");
        says("The court judges a number.");
        Story judged = both(owes(10, 4), x -> x.judge(0));
        holds(6, judged, x -> x.debt(0));
        holds(0, judged, x -> x.bondOf(0));
        holds(4, judged, x -> x.coins(0));
        holds(1, judged, x -> x.isBarred(0) ? 1 : 0);
        says("- `number`: the number");
        for (int number = 0; number < 12; number++) {
            int n = number;
            Story owing = x -> {
                x.call(n, (n + 1) % 12);
                x.pass(9);
            };
            holds(9, owing, x -> x.judge(n));
            holds(1, both(owing, x -> x.judge(n)), x -> x.isBarred(n) ? 1 : 0);
            refused(STATE, owing, x -> x.judge((n + 1) % 12));
        }
        says("Returns the debt that is left.");
        holds(6, owes(10, 4), x -> x.judge(0));
        holds(0, owes(10, 12), x -> x.judge(0));
        holds(10, owes(10), x -> x.judge(0));
        says(NO_NUMBER);
        refusedOutside(12, BUSY, (x, n) -> x.judge(n));
        says("Throws `IllegalStateException` if it has no debt");
        refused(STATE, NEW, x -> x.judge(0));
        refused(STATE, both(owes(10), x -> x.pay(0, 10)), x -> x.judge(0));
    }

    private void call() {
        under("Promise 10: call");
        says("Calls a number.");
        Story called = x -> x.call(0, 1);
        holds(1, called, x -> x.calls());
        holds(0, called, x -> x.state(0));
        holds(1, called, x -> x.pass(1));
        says("- `number`: the caller's number");
        holds(1, called, x -> x.pass(1) - 1 + x.debt(0));
        holds(0, called, x -> x.carrierAt(0, 0));
        for (int number = 0; number < 12; number++) {
            int n = number;
            Story talk = x -> x.call(n, (n + 1) % 12);
            holds(0, talk, x -> x.callOf(n));
            holds(1, talk, x -> x.pass(1) - 1 + x.debt(n));
        }
        says("- `other`: the other one");
        holds(0, called, x -> x.pass(1) - 1 + x.debt(1));
        holds(1, called, x -> x.carrierAt(0, 1));
        for (int number = 0; number < 12; number++) {
            int n = number;
            holds(0, x -> x.call(n, (n + 1) % 12), x -> x.callOf((n + 1) % 12));
            holds(-1, x -> x.call(n, (n + 1) % 12), x -> x.callOf((n + 2) % 12));
        }
        says("Returns the call; -1 if it is lost.");
        holds(0, NEW, x -> x.call(0, 1));
        holds(1, called, x -> x.call(2, 3));
        holds(1, both(called, x -> x.hangUp(0)), x -> x.call(0, 1));
        holds(-1, x -> x.setTrunk(0, 1, 0), x -> x.call(0, 1));
        holds(-1, both(chain(2), x -> x.setTrunk(1, 2, 0)), x -> x.call(0, 1));
        says(NO_NUMBER);
        refusedOutside(12, BUSY, (x, n) -> x.call(n, 5));
        refusedOutside(12, BUSY, (x, n) -> x.call(5, n));
        refusedOutside(12, BUSY, (x, n) -> x.call(n, n));
        says(BOTH_SAME);
        for (int number = 0; number < 12; number++) {
            int n = number;
            refused(ARGUMENT, NEW, x -> x.call(n, n));
            refused(ARGUMENT, BUSY, x -> x.call(n, n));
        }
    }

    private void callRefused() {
        says("Throws `IllegalStateException` if either is in a call, the caller's number is ",
            "barred, or 60 calls were made, lost ones aside that never came through");
        Story called = x -> x.call(0, 1);
        refused(STATE, called, x -> x.call(0, 2));
        refused(STATE, called, x -> x.call(1, 2));
        refused(STATE, called, x -> x.call(2, 0));
        refused(STATE, called, x -> x.call(2, 1));
        Story judged = both(owes(1), x -> x.judge(0));
        refused(STATE, judged, x -> x.call(0, 1));
        holds(1, judged, x -> x.call(1, 0));
        Story made59 = x -> {
            x.setTrunk(0, 1, 0);
            for (int call = 0; call < 59; call++) {
                x.hangUp(x.call(10, 5));
                x.call(0, 1);
            }
        };
        holds(59, made59, x -> x.call(10, 5));
        holds(-1, made59, x -> x.call(0, 1));
        refused(STATE, both(made59, x -> x.hangUp(x.call(10, 5))), x -> x.call(10, 5));
        refused(STATE, both(made59, x -> x.hangUp(x.call(10, 5))), x -> x.call(0, 1));
        Story byATrunk = both(made59, x -> {
            x.setTrunk(0, 1, 1);
            x.call(0, 1);
            x.setTrunk(0, 1, 0);
        });
        refused(STATE, byATrunk, x -> x.call(10, 5));
    }

    private void hangUp() {
        under("Promise 11: hangUp");
        says("Ends a call.");
        Story talk = x -> {
            x.call(0, 1);
            x.pass(3);
        };
        Story ended = both(talk, x -> x.hangUp(0));
        holds(1, ended, x -> x.state(0));
        holds(-2, ended, x -> x.callOf(0) + x.callOf(1));
        holds(2, ended, x -> x.free(0, 1));
        holds(0, ended, x -> x.pass(5));
        holds(0, ended, x -> x.lost());
        says("- `call`: the call");
        Story three = x -> {
            x.call(0, 1);
            x.call(2, 3);
            x.call(4, 5);
        };
        for (int call = 0; call < 3; call++) {
            int k = call;
            for (int other = 0; other < 3; other++) {
                int o = other;
                holds(k == o ? 1 : 0, both(three, x -> x.hangUp(k)), x -> x.state(o));
            }
        }
        says("Returns how many seconds it had.");
        holds(3, talk, x -> x.hangUp(0));
        holds(0, x -> x.call(0, 1), x -> x.hangUp(0));
        holds(5, both(at(40), both(talk, x -> x.pass(2))), x -> x.hangUp(0));
        says(NO_CALL);
        refusedOutside(4, BUSY, (x, k) -> x.hangUp(k));
        refusedOutside(0, NEW, (x, k) -> x.hangUp(k));
        says("Throws `IllegalStateException` if it has ended");
        refused(STATE, ended, x -> x.hangUp(0));
        refused(STATE, both(talk, x -> x.setTrunk(0, 1, 0)), x -> x.hangUp(0));
    }

    private void pass() {
        under("Promise 12: pass");
        says("Lets seconds go by.");
        holds(7, x -> x.pass(7), x -> x.second());
        holds(12, both(x -> x.pass(7), x -> x.pass(5)), x -> x.second());
        says("- `seconds`: 1 to 2000");
        for (int seconds : new int[] {1, 2, 1999, 2000}) {
            holds(seconds, x -> x.pass(seconds), x -> x.second());
        }
        refused(ARGUMENT, NEW, x -> x.pass(0));
        refused(ARGUMENT, NEW, x -> x.pass(2001));
        says("Returns how much is charged in them.");
        Story talks = x -> {
            x.setPrices(2, 9, 4);
            x.call(0, 1);
            x.call(2, 3);
            x.call(5, 6);
            x.hangUp(2);
        };
        holds(5, talks, x -> x.pass(1));
        holds(5 * 479 + 2 + 9, both(talks, x -> x.pass(1)), x -> x.pass(480));
        holds(0, NEW, x -> x.pass(2000));
        says("Throws `IllegalArgumentException` if seconds is out of range");
        for (int bad : new int[] {0, -1, 2001, LEAST, MOST}) {
            refused(ARGUMENT, BUSY, x -> x.pass(bad));
            refused(ARGUMENT, AT_END, x -> x.pass(bad));
        }
        says("Throws `IllegalStateException` if the second of now would be above 20000");
        holds(0, at(18000), x -> x.pass(2000));
        refused(STATE, at(18001), x -> x.pass(2000));
        holds(0, at(19999), x -> x.pass(1));
        refused(STATE, at(19999), x -> x.pass(2));
        refused(STATE, at(20000), x -> x.pass(1));
    }
}
