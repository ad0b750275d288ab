/** "If several exceptions apply, the one that is named first in the throws clause is thrown." */
final class OrderEdgesTest extends Edges {
    private OrderEdgesTest() {
        super("OrderEdgesTest");
    }

    public static void main(String[] args) {
        OrderEdgesTest test = new OrderEdgesTest();
        test.go();
        test.end();
    }

    private void go() {
        setPrices();
        setDelayAndTrunk();
        portAndSell();
        bondAndPay();
        call();
        passAndPlaces();
    }

    private void index(String what, Story before, Ask ask) {
        refuses(what, INDEX, before, ask);
    }

    private void argument(String what, Story before, Ask ask) {
        refuses(what, ARGUMENT, before, ask);
    }

    private void setPrices() {
        for (int bad : new int[] {-1, 5, LEAST, MOST}) {
            index("prices: no carrier, dear", NEW, x -> x.setPrices(bad, 10, 0));
            index("prices: no carrier, cheap", NEW, x -> x.setPrices(bad, 0, -1));
            index("prices: no carrier, both", NEW, x -> x.setPrices(bad, MOST, LEAST));
            index("prices: no carrier, 60 times", FULL, x -> x.setPrices(bad, 0, 0));
            index("prices: no carrier, dear, 60 times", FULL, x -> x.setPrices(bad, -1, 0));
        }
        for (int bad : new int[] {-1, 10, LEAST, MOST}) {
            argument("prices: dear, 60 times", FULL, x -> x.setPrices(0, bad, 0));
            argument("prices: cheap, 60 times", FULL, x -> x.setPrices(4, 9, bad));
        }
    }

    private void setDelayAndTrunk() {
        for (int bad : new int[] {-1, 5, LEAST, MOST}) {
            index("delay: no carrier, too short", NEW, x -> x.setDelay(bad, -1));
            index("delay: no carrier, too long", NEW, x -> x.setDelay(bad, 5001));
            index("trunk: no carrier, lines", NEW, x -> x.setTrunk(bad, 0, 6));
            index("trunk: no other one, lines", NEW, x -> x.setTrunk(0, bad, -1));
            index("trunk: neither, the same", NEW, x -> x.setTrunk(bad, bad, 2));
            index("trunk: neither, the same, lines", NEW, x -> x.setTrunk(bad, bad, 6));
        }
        argument("trunk: the same, lines", NEW, x -> x.setTrunk(2, 2, 6));
    }

    private void portAndSell() {
        Story owes = x -> {
            x.call(0, 5);
            x.pass(1);
        };
        for (int bad : new int[] {-1, 12, LEAST, MOST}) {
            index("port: no number, 60 ports", FULL, x -> x.port(bad, 0));
            index("port: no number nor carrier", NEW, x -> x.port(bad, bad));
            index("sell: no number, 60 were sold", FULL, x -> x.sell(bad, 0));
            index("sell: no number nor person", NEW, x -> x.sell(bad, bad));
        }
        for (int bad : new int[] {-1, 6, LEAST, MOST}) {
            index("port: no carrier, a debt", owes, x -> x.port(0, bad));
            index("port: no carrier, 60 ports", FULL, x -> x.port(0, bad));
            index("sell: no person, 60 were sold", FULL, x -> x.sell(0, bad));
        }
        index("port: carrier 5, where number 5 is 0", NEW, x -> x.port(5, 5));
        index("sell: person 6, where number 6 is of 0", NEW, x -> x.sell(6, 6));
    }

    private void bondAndPay() {
        Story full = x -> x.bond(0, 5000);
        for (int bad : new int[] {-1, 12, LEAST, MOST}) {
            index("bond: no number, none", NEW, x -> x.bond(bad, 0));
            index("bond: no number, too many", NEW, x -> x.bond(bad, 5001));
            index("pay: no number, none", NEW, x -> x.pay(bad, 0));
            index("pay: no number, too many", NEW, x -> x.pay(bad, MOST));
        }
        for (int bad : new int[] {0, -1, 5001, LEAST, MOST}) {
            argument("bond: coins, above 5000", full, x -> x.bond(0, bad));
        }
    }

    private void call() {
        Story barred = x -> {
            x.call(0, 5);
            x.pass(1);
            x.judge(0);
        };
        for (int bad : new int[] {-1, 12, LEAST, MOST}) {
            index("call: no number, the same", NEW, x -> x.call(bad, bad));
            index("call: no number, the other is in a call", barred, x -> x.call(bad, 0));
            index("call: no other one, barred and in a call", barred, x -> x.call(0, bad));
            index("call: no number, 60 calls", FULL, x -> x.call(bad, 0));
            index("call: no other one, 60 calls", FULL, x -> x.call(0, bad));
            index("call: neither, the same, 60 calls", FULL, x -> x.call(bad, bad));
            index("route: neither, the same", NEW, x -> x.route(bad, bad));
        }
        argument("call: the same, barred and in a call", barred, x -> x.call(0, 0));
        argument("call: the same, in a call", barred, x -> x.call(5, 5));
        argument("call: the same, barred", both(barred, x -> x.hangUp(0)), x -> x.call(0, 0));
        argument("call: the same, 60 calls", FULL, x -> x.call(0, 0));
    }

    private void passAndPlaces() {
        for (int bad : new int[] {0, -1, 2001, LEAST, MOST}) {
            argument("pass: seconds, above 20000", AT_END, x -> x.pass(bad));
            argument("pass: seconds, one is left", at(19999), x -> x.pass(bad));
        }
        for (int bad : new int[] {-1, 12, LEAST, MOST}) {
            index("carrierThen: no number, too late", NEW, x -> x.carrierThen(bad, 1));
            index("carrierThen: no number, too early", AT_END, x -> x.carrierThen(bad, -1));
            index("free: neither, the same", NEW, x -> x.free(bad, bad));
            index("believed: neither", NEW, x -> x.believed(bad, bad));
            index("carrierAt: no call nor place", NEW, x -> x.carrierAt(bad, bad));
        }
    }
}
