import java.util.Arrays;

/** Promises 13 to 39, sentence by sentence: what only tells. And what is not promised. */
final class LookSentences extends Sentences {
    private static final String NO_CARRIER =
        "Throws `IndexOutOfBoundsException` if there is no such carrier";
    private static final String NO_PERSON =
        "Throws `IndexOutOfBoundsException` if there is no such person";
    private static final String NO_NUMBER =
        "Throws `IndexOutOfBoundsException` if there is no such number";
    private static final String NO_CALL =
        "Throws `IndexOutOfBoundsException` if there is no such call";

    /** Three calls: one that ended, one that a trunk lost, and one that goes on. */
    private static final Story THREE = x -> {
        x.call(0, 1);
        x.call(2, 3);
        x.pass(4);
        x.hangUp(0);
        x.call(6, 11);
        x.pass(3);
        x.setTrunk(2, 3, 0);
        x.pass(2);
    };

    /** A call of number 0, carried, sold and told of new prices while it goes on. */
    private static final Story CHANGED = x -> {
        x.bond(0, 100);
        x.call(0, 1);
        x.pass(10);
        x.port(0, 4);
        x.pass(2);
        x.setPrices(4, 9, 5);
        x.pass(3);
        x.sell(0, 3);
        x.setPrices(0, 8, 8);
        x.pass(1);
    };

    LookSentences(Check check) {
        super(check);
    }

    @Override
    void go() {
        timeOfNow();
        carrierOf();
        carrierThen();
        ownerOf();
        believed();
        debts();
        bondOf();
        isBarred();
        callOf();
        free();
        route();
        countsOfCalls();
        state();
        trunks();
        carrierAt();
        seconds();
        chargesOfCalls();
        coins();
        earnings();
        spendings();
        losses();
        notPromised();
    }

    private void timeOfNow() {
        under("Promise 13: second");
        says("Returns the second of now.");
        for (int second : new int[] {0, 1, 479, 19999, 20000}) {
            holds(second, at(second), x -> x.second());
        }
        under("Promise 14: isDear");
        says("Tells whether the hour of now is dear.");
        int[] turns = {480, 1200, 1920, 2640, 19200, 19920};
        for (int i = 0; i < turns.length; i++) {
            holds(i % 2, at(turns[i] - 1), x -> x.isDear() ? 1 : 0);
            holds(1 - i % 2, at(turns[i]), x -> x.isDear() ? 1 : 0);
        }
    }

    private void carrierOf() {
        under("Promise 15: carrierOf");
        says("Returns where a number is.");
        for (int number = 0; number < 12; number++) {
            int n = number;
            holds(n % 5, NEW, x -> x.carrierOf(n));
            holds((n + 3) % 5, x -> x.port(n, (n + 3) % 5), x -> x.carrierOf(n));
        }
        holds(2, both(x -> x.port(0, 3), x -> x.port(0, 2)), x -> x.carrierOf(0));
        says(NO_NUMBER);
        refusedOutside(12, BUSY, (x, n) -> x.carrierOf(n));
    }

    private void carrierThen() {
        under("Promise 16: carrierThen");
        Story ported = x -> {
            x.pass(10);
            x.port(6, 4);
            x.pass(5);
            x.port(6, 3);
            x.port(6, 0);
            x.pass(1);
        };
        says("Returns where a number was in a second.");
        int[] want = {1, 4, 4, 0, 0};
        int[] seconds = {9, 10, 14, 15, 16};
        for (int i = 0; i < want.length; i++) {
            int second = seconds[i];
            holds(want[i], ported, x -> x.carrierThen(6, second));
        }
        says("- `number`: the number");
        for (int number = 0; number < 12; number++) {
            int n = number;
            holds(n == 6 ? 4 : n % 5, ported, x -> x.carrierThen(n, 12));
        }
        says("- `second`: 0 to the second of now");
        holds(1, ported, x -> x.carrierThen(6, 0));
        holds(0, ported, x -> x.carrierThen(6, 16));
        refused(ARGUMENT, ported, x -> x.carrierThen(6, -1));
        refused(ARGUMENT, ported, x -> x.carrierThen(6, 17));
        says("Returns the carrier.");
        for (int carrier = 0; carrier < 4; carrier++) {
            int c = carrier;
            holds(c, x -> x.port(4, c), x -> x.carrierThen(4, 0));
        }
        says(NO_NUMBER);
        refusedOutside(12, BUSY, (x, n) -> x.carrierThen(n, 0));
        says("Throws `IllegalArgumentException` if second is out of range");
        for (int bad : outside(17)) {
            refused(ARGUMENT, ported, x -> x.carrierThen(6, bad));
        }
        refused(ARGUMENT, NEW, x -> x.carrierThen(0, 1));
        holds(1, both(NEW, x -> x.pass(1)), x -> x.carrierThen(1, 1));
    }

    private void ownerOf() {
        under("Promise 17: ownerOf");
        says("Returns who owns a number.");
        for (int number = 0; number < 12; number++) {
            int n = number;
            holds(n % 6, NEW, x -> x.ownerOf(n));
            holds((n + 4) % 6, x -> x.sell(n, (n + 4) % 6), x -> x.ownerOf(n));
        }
        holds(2, both(x -> x.sell(0, 3), x -> x.sell(0, 2)), x -> x.ownerOf(0));
        says(NO_NUMBER);
        refusedOutside(12, BUSY, (x, n) -> x.ownerOf(n));
    }

    private void believed() {
        under("Promise 18: believed");
        says("Returns where a carrier believes a number to be.");
        Story ported = x -> x.port(6, 4);
        int[] want = {1, 4, 1, 1, 4};
        for (int carrier = 0; carrier < 5; carrier++) {
            int c = carrier;
            holds(want[c], ported, x -> x.believed(c, 6));
            holds(4, both(ported, at(100)), x -> x.believed(c, 6));
            holds(1, ported, x -> x.believed(c, 11));
        }
        Story sixty = x -> {
            for (int i = 0; i < 59; i++) {
                x.port(6, (x.carrierOf(6) + 1) % 3);
            }
            x.port(6, 3);
        };
        holds(3, sixty, x -> x.believed(3, 6));
        holds(1, both(sixty, at(99)), x -> x.believed(4, 6));
        holds(3, both(sixty, at(100)), x -> x.believed(4, 6));
        says("Throws `IndexOutOfBoundsException` if there is no such carrier or number");
        refusedOutside(5, BUSY, (x, c) -> x.believed(c, 6));
        refusedOutside(12, BUSY, (x, n) -> x.believed(4, n));
    }

    private void debts() {
        Story owing = x -> {
            x.bond(0, 7);
            x.call(0, 1);
            x.pass(10);
            x.hangUp(0);
            x.call(0, 2);
            x.pass(20);
            x.pay(0, 4);
            x.judge(0);
        };
        under("Promise 19: debt");
        says("Returns the debt of a number, as it is kept.");
        holds(0, NEW, x -> x.debt(0));
        holds(19, owing, x -> x.debt(0));
        holds(20, both(owing, x -> x.pass(1)), x -> x.debt(0));
        holds(0, owing, x -> x.debt(1) + x.debt(2));
        says(NO_NUMBER);
        refusedOutside(12, BUSY, (x, n) -> x.debt(n));
        under("Promise 20: debtAnew");
        says("Returns the same: all that was charged for calls of the number, found anew, less ",
            "all that was paid for it, by the court, too.");
        holds(0, NEW, x -> x.debtAnew(0));
        holds(19, owing, x -> x.debtAnew(0));
        holds(20, both(owing, x -> x.pass(1)), x -> x.debtAnew(0));
        holds(0, owing, x -> x.debtAnew(1) + x.debtAnew(2));
        holds(12 + 3 * 5 + 1 * 5, CHANGED, x -> x.debtAnew(0));
        says(NO_NUMBER);
        refusedOutside(12, BUSY, (x, n) -> x.debtAnew(n));
    }

    private void bondOf() {
        under("Promise 21: bondOf");
        says("Returns the bond of a number.");
        holds(0, NEW, x -> x.bondOf(3));
        holds(8, x -> x.bond(3, 8), x -> x.bondOf(3));
        holds(0, x -> x.bond(3, 8), x -> x.bondOf(8));
        holds(2, both(owes(6, 8), x -> x.judge(0)), x -> x.bondOf(0));
        holds(8, both(owes(6, 8), x -> x.pay(0, 6)), x -> x.bondOf(0));
        says(NO_NUMBER);
        refusedOutside(12, BUSY, (x, n) -> x.bondOf(n));
    }

    private void isBarred() {
        under("Promise 22: isBarred");
        says("Tells whether a number is barred from calling.");
        Story judged = both(owes(6, 4), x -> x.judge(0));
        holds(0, NEW, x -> x.isBarred(0) ? 1 : 0);
        holds(0, owes(6), x -> x.isBarred(0) ? 1 : 0);
        holds(1, judged, x -> x.isBarred(0) ? 1 : 0);
        holds(0, judged, x -> x.isBarred(5) ? 1 : 0);
        holds(1, both(judged, x -> x.pay(0, 1)), x -> x.isBarred(0) ? 1 : 0);
        holds(0, both(judged, x -> x.pay(0, 2)), x -> x.isBarred(0) ? 1 : 0);
        refused(STATE, judged, x -> x.call(0, 1));
        for (int number = 0; number < 12; number++) {
            int n = number;
            Story each = x -> {
                x.call(n, (n + 1) % 12);
                x.pass(2);
                x.judge(n);
            };
            holds(1, each, x -> x.isBarred(n) ? 1 : 0);
            holds(0, each, x -> x.isBarred((n + 1) % 12) ? 1 : 0);
            holds(0, both(each, x -> x.pay(n, 2)), x -> x.isBarred(n) ? 1 : 0);
        }
        says(NO_NUMBER);
        refusedOutside(12, BUSY, (x, n) -> x.isBarred(n) ? 1 : 0);
    }

    private void callOf() {
        under("Promise 23: callOf");
        says("Returns the call in which a number is.");
        int[] want = {-1, -1, -1, -1, -1, -1, 2, -1, -1, -1, -1, 2};
        for (int number = 0; number < 12; number++) {
            int n = number;
            holds(want[n], THREE, x -> x.callOf(n));
        }
        says("Returns the call; -1 for none.");
        holds(-1, NEW, x -> x.callOf(0));
        holds(0, x -> x.call(0, 1), x -> x.callOf(0));
        holds(1, both(x -> x.call(0, 1), x -> x.call(2, 3)), x -> x.callOf(3));
        holds(-1, both(x -> x.call(0, 1), x -> x.hangUp(0)), x -> x.callOf(0));
        holds(-1, both(x -> x.setTrunk(0, 1, 0), x -> x.call(0, 1)), x -> x.callOf(0));
        says(NO_NUMBER);
        refusedOutside(12, BUSY, (x, n) -> x.callOf(n));
    }

    private void free() {
        under("Promise 24: free");
        says("Returns how many lines of a trunk are free.");
        Story talk = x -> {
            x.setTrunk(0, 1, 4);
            x.call(0, 1);
            x.call(6, 5);
        };
        holds(2, talk, x -> x.free(0, 1));
        holds(2, talk, x -> x.free(1, 0));
        holds(3, both(talk, x -> x.hangUp(1)), x -> x.free(0, 1));
        holds(0, both(talk, x -> x.setTrunk(0, 1, 1)), x -> x.free(0, 1));
        says("Returns how many; 0 for one and the same carrier.");
        for (int carrier = 0; carrier < 5; carrier++) {
            int c = carrier;
            holds(0, NEW, x -> x.free(c, c));
            holds(2, NEW, x -> x.free(c, (c + 1) % 5));
            holds(0, talk, x -> x.free(c, c));
        }
        says(NO_CARRIER);
        refusedOutside(5, BUSY, (x, c) -> x.free(c, 0));
        refusedOutside(5, BUSY, (x, c) -> x.free(0, c));
        refusedOutside(5, BUSY, (x, c) -> x.free(c, c));
    }

    private void route() {
        under("Promise 25: route");
        says("Returns over how many trunks a call would go now, whether the numbers are in calls ",
            "or barred or not.");
        Story talks = both(chain(2), x -> x.call(0, 1));
        holds(2, chain(2), x -> x.route(0, 1));
        holds(2, talks, x -> x.route(0, 1));
        holds(2, talks, x -> x.route(5, 1));
        Story judged = both(talks, x -> {
            x.pass(1);
            x.judge(0);
        });
        holds(2, judged, x -> x.route(0, 1));
        holds(2, both(judged, x -> x.hangUp(0)), x -> x.route(0, 1));
        holds(1, both(x -> x.port(1, 2), at(100)), x -> x.route(0, 1));
        says("- `number`: the caller's number");
        holds(1, chain(2), x -> x.route(6, 1));
        holds(0, chain(2), x -> x.route(2, 1));
        says("- `other`: the other one");
        holds(1, chain(2), x -> x.route(0, 6));
        holds(0, chain(2), x -> x.route(0, 5));
        holds(1, chain(2), x -> x.route(1, 0));
        says("Returns how many; -1 if it would be lost.");
        int[] carriers = {0, 2, 3, 4};
        for (int trunks = 2; trunks <= 4; trunks++) {
            Story way = chain(Arrays.copyOfRange(carriers, 1, trunks));
            holds(trunks, way, x -> x.route(0, 1));
            int last = trunks;
            holds(-1, both(way, x -> x.setTrunk(last - 1, last, 0)), x -> x.route(0, 1));
        }
        holds(0, both(chain(2), x -> x.setTrunk(1, 2, 0)), x -> x.route(0, 1) + 1 + x.lost());
        says(NO_NUMBER);
        refusedOutside(12, BUSY, (x, n) -> x.route(n, 0));
        refusedOutside(12, BUSY, (x, n) -> x.route(0, n));
        refusedOutside(12, BUSY, (x, n) -> x.route(n, n));
        says("Throws `IllegalArgumentException` if both are the same");
        for (int number = 0; number < 12; number++) {
            int n = number;
            refused(ARGUMENT, BUSY, x -> x.route(n, n));
        }
    }

    private void countsOfCalls() {
        Story lostOne = both(THREE, x -> x.call(7, 8));
        under("Promise 26: calls");
        says("Returns how many calls came through.");
        holds(0, NEW, x -> x.calls());
        holds(1, x -> x.call(0, 1), x -> x.calls());
        holds(3, THREE, x -> x.calls());
        holds(3, lostOne, x -> x.calls());
        under("Promise 27: lost");
        says("Returns how many calls were lost, those that never came through and those that ",
            "ended by a trunk.");
        holds(0, NEW, x -> x.lost());
        holds(0, x -> x.hangUp(x.call(0, 1)), x -> x.lost());
        holds(1, THREE, x -> x.lost());
        holds(2, lostOne, x -> x.lost());
        holds(1, both(x -> x.setTrunk(0, 1, 0), x -> x.call(0, 1)), x -> x.lost());
    }

    private void state() {
        under("Promise 28: state");
        says("Returns the state of a call.");
        holds(0, x -> x.call(0, 1), x -> x.state(0));
        holds(1, x -> x.hangUp(x.call(0, 1)), x -> x.state(0));
        says("Returns 0 it goes on, 1 ended, 2 lost by a trunk.");
        holds(1, THREE, x -> x.state(0));
        holds(2, THREE, x -> x.state(1));
        holds(0, THREE, x -> x.state(2));
        says(NO_CALL);
        refusedOutside(3, THREE, (x, k) -> x.state(k));
        refusedOutside(0, NEW, (x, k) -> x.state(k));
    }

    private void trunks() {
        under("Promise 29: trunks");
        says("Returns over how many trunks a call went.");
        holds(0, x -> x.call(0, 5), x -> x.trunks(0));
        holds(1, x -> x.call(0, 1), x -> x.trunks(0));
        Story longest = both(chain(2, 3, 4), x -> x.call(0, 1));
        holds(4, longest, x -> x.trunks(0));
        holds(4, both(longest, x -> x.hangUp(0)), x -> x.trunks(0));
        holds(4, both(longest, x -> x.port(1, 0)), x -> x.trunks(0));
        holds(2, both(chain(2), x -> x.call(0, 1)), x -> x.trunks(0));
        says(NO_CALL);
        refusedOutside(3, THREE, (x, k) -> x.trunks(k));
        refusedOutside(0, NEW, (x, k) -> x.trunks(k));
    }

    private void carrierAt() {
        under("Promise 30: carrierAt");
        says("Returns a carrier on the way of a call.");
        Story way = both(chain(3, 2), x -> {
            x.call(5, 10);
            x.call(0, 1);
            x.call(6, 8);
        });
        int[] stops = {0, 1, 3, 2};
        for (int place = 0; place < stops.length; place++) {
            int p = place;
            holds(stops[p], way, x -> x.carrierAt(1, p));
        }
        Story longest = both(chain(2, 3, 4), x -> {
            x.call(0, 1);
            x.call(6, 8);
        });
        holds(4, longest, x -> x.carrierAt(0, 4));
        says("- `call`: the call");
        int[] firsts = {0, 0, 1};
        for (int call = 0; call < firsts.length; call++) {
            int k = call;
            holds(firsts[k], way, x -> x.carrierAt(k, 0));
        }
        holds(3, way, x -> x.carrierAt(2, 1));
        holds(4, FULL, x -> x.carrierAt(59, 0));
        holds(3, FULL, x -> x.carrierAt(59, 1));
        says("- `place`: 0 for the first one");
        holds(0, way, x -> x.carrierAt(1, 0));
        holds(1, way, x -> x.carrierAt(1, 1));
        says("Returns the carrier.");
        holds(4, x -> x.call(4, 0), x -> x.carrierAt(0, 0));
        holds(0, x -> x.call(4, 0), x -> x.carrierAt(0, 1));
        says("Throws `IndexOutOfBoundsException` if there is no such call, or not so many ",
            "carriers were on its way");
        refusedOutside(3, way, (x, k) -> x.carrierAt(k, 0));
        refusedOutside(4, way, (x, place) -> x.carrierAt(1, place));
        refusedOutside(1, way, (x, place) -> x.carrierAt(0, place));
        refusedOutside(2, way, (x, place) -> x.carrierAt(2, place));
        refusedOutside(0, NEW, (x, k) -> x.carrierAt(k, 0));
    }

    private void seconds() {
        under("Promise 31: seconds");
        says("Returns how many seconds a call has had.");
        int[] want = {4, 7, 5};
        for (int call = 0; call < want.length; call++) {
            int k = call;
            holds(want[k], THREE, x -> x.seconds(k));
        }
        holds(6, both(THREE, x -> x.pass(1)), x -> x.seconds(2));
        holds(4, both(THREE, x -> x.pass(1)), x -> x.seconds(0));
        holds(7, both(THREE, x -> x.pass(1)), x -> x.seconds(1));
        holds(0, x -> x.call(0, 1), x -> x.seconds(0));
        says(NO_CALL);
        refusedOutside(3, THREE, (x, k) -> x.seconds(k));
        refusedOutside(0, NEW, (x, k) -> x.seconds(k));
    }

    private void chargesOfCalls() {
        int[] want = {4, 7, 5};
        under("Promise 32: charged");
        says("Returns what was charged for a call, as it is kept.");
        for (int call = 0; call < want.length; call++) {
            int k = call;
            holds(want[k], THREE, x -> x.charged(k));
        }
        holds(12 + 4 * 5, CHANGED, x -> x.charged(0));
        holds(12 + 4 * 5, both(CHANGED, x -> x.pay(0, 9)), x -> x.charged(0));
        says(NO_CALL);
        refusedOutside(3, THREE, (x, k) -> x.charged(k));
        refusedOutside(0, NEW, (x, k) -> x.charged(k));
        under("Promise 33: chargedAnew");
        says("Returns the same, second by second from ports and tariffs.");
        for (int call = 0; call < want.length; call++) {
            int k = call;
            holds(want[k], THREE, x -> x.chargedAnew(k));
        }
        holds(12 + 4 * 5, CHANGED, x -> x.chargedAnew(0));
        holds(12 + 4 * 5 + 464 * 5 + 9, both(CHANGED, at(481)), x -> x.chargedAnew(0));
        says(NO_CALL);
        refusedOutside(3, THREE, (x, k) -> x.chargedAnew(k));
        refusedOutside(0, NEW, (x, k) -> x.chargedAnew(k));
    }

    private void coins() {
        under("Promise 34: coins");
        says("Returns the coins of a carrier.");
        Story paid = both(owes(20, 7), x -> {
            x.pay(0, 3);
            x.judge(0);
        });
        holds(0, owes(20, 7), x -> x.coins(0));
        holds(10, paid, x -> x.coins(0));
        Story ported = both(paid, x -> {
            x.bond(0, 10);
            x.port(0, 4);
        });
        int[] want = {20, 0, 0, 0, -10};
        int[] lost = {25, -5, 0, 0, -10};
        for (int carrier = 0; carrier < 5; carrier++) {
            int c = carrier;
            holds(want[c], ported, x -> x.coins(c));
            holds(lost[c], both(ported, x -> {
                x.call(5, 6);
                x.setTrunk(0, 1, 0);
            }), x -> x.coins(c));
        }
        says(NO_CARRIER);
        refusedOutside(5, BUSY, (x, c) -> x.coins(c));
    }

    private void earnings() {
        int[] want = {10, 0, 0, 0, 2 + 4 * 5};
        Story paid = both(CHANGED, x -> x.pay(0, 9));
        under("Promise 35: earned");
        says("Returns what a carrier has charged.");
        for (int carrier = 0; carrier < 5; carrier++) {
            int c = carrier;
            holds(want[c], CHANGED, x -> x.earned(c));
            holds(want[c], paid, x -> x.earned(c));
        }
        says(NO_CARRIER);
        refusedOutside(5, BUSY, (x, c) -> x.earned(c));
        under("Promise 36: earnedAnew");
        says("Returns the same, found anew from all calls.");
        for (int carrier = 0; carrier < 5; carrier++) {
            int c = carrier;
            holds(want[c], CHANGED, x -> x.earnedAnew(c));
            holds(want[c], paid, x -> x.earnedAnew(c));
        }
        holds(5, THREE, x -> x.earnedAnew(1));
        holds(7, THREE, x -> x.earnedAnew(2));
        holds(10, both(THREE, x -> {
            x.hangUp(2);
            x.call(11, 6);
            x.pass(5);
        }), x -> x.earnedAnew(1));
        says(NO_CARRIER);
        refusedOutside(5, BUSY, (x, c) -> x.earnedAnew(c));
    }

    private void spendings() {
        int[] want = {12 + 3 * 5, 0, 0, 5, 0, 0};
        under("Promise 37: spent");
        says("Returns what was charged to a person.");
        for (int person = 0; person < 6; person++) {
            int p = person;
            holds(want[p], CHANGED, x -> x.spent(p));
            holds(want[p], both(CHANGED, x -> x.pay(0, 9)), x -> x.spent(p));
        }
        says(NO_PERSON);
        refusedOutside(6, BUSY, (x, p) -> x.spent(p));
        under("Promise 38: spentAnew");
        says("Returns the same, found anew from all calls and sales.");
        for (int person = 0; person < 6; person++) {
            int p = person;
            holds(want[p], CHANGED, x -> x.spentAnew(p));
            holds(want[p], both(CHANGED, x -> x.pay(0, 9)), x -> x.spentAnew(p));
        }
        holds(4 + 5, THREE, x -> x.spentAnew(0));
        holds(7, THREE, x -> x.spentAnew(2));
        says(NO_PERSON);
        refusedOutside(6, BUSY, (x, p) -> x.spentAnew(p));
    }

    private void losses() {
        under("Promise 39: losses");
        says("Returns what a carrier has paid for lost calls.");
        Story asMade = both(chain(2), x -> {
            x.setTrunk(1, 2, 0);
            x.call(0, 1);
            x.call(0, 1);
        });
        Story byATrunk = both(asMade, x -> {
            x.call(6, 5);
            x.setTrunk(0, 1, 0);
        });
        int[] first = {0, 10, 0, 0, 0};
        int[] second = {5, 10, 0, 0, 0};
        for (int carrier = 0; carrier < 5; carrier++) {
            int c = carrier;
            holds(0, NEW, x -> x.losses(c));
            holds(first[c], asMade, x -> x.losses(c));
            holds(second[c], byATrunk, x -> x.losses(c));
            holds(0, both(owes(10, 10), x -> x.port(0, 1)), x -> x.losses(c));
        }
        says(NO_CARRIER);
        refusedOutside(5, BUSY, (x, c) -> x.losses(c));
    }

    private void notPromised() {
        under("Not promised");
        leavesFree("How the state is held inside the object is free, as are the speed of each ",
            "call, the text of toString and the behaviour of equals and hashCode.");
        leavesFree("Use of one object from several threads at once is not promised to be safe.");
        leavesFree("Nothing is promised beyond the answers and state changes described above, and ",
            "nothing about an object after its 512th call.");
    }
}
