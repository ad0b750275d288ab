/** The Terms on numbers, persons, debts, bonds and the court at their edges, promises 5 to 9. */
final class NumberEdgesTest extends Edges {
    private NumberEdgesTest() {
        super("NumberEdgesTest");
    }

    public static void main(String[] args) {
        NumberEdgesTest test = new NumberEdgesTest();
        test.go();
        test.end();
    }

    private void go() {
        atFirst();
        numbersAre0To11();
        personsAre0To5();
        portsToEachCarrier();
        ports60();
        bondNotLessThanTheDebt();
        bondOf5000AndTheDebt();
        debtGoesAlong();
        salesToEachPerson();
        sales60();
        coinsOfABond();
        bondAtMost5000();
        bondAfterTheCourt();
        coinsToPay();
        paidGoesToTheCarrier();
        courtTakes();
        courtOfNoDebt();
        barredUntilThereIsNone();
        coinsBelow0();
    }

    /** "the number n is at the carrier n modulo 5, and owned by the person n modulo 6" */
    private void atFirst() {
        int[] carriers = {0, 1, 2, 3, 4, 0, 1, 2, 3, 4, 0, 1};
        int[] owners = {0, 1, 2, 3, 4, 5, 0, 1, 2, 3, 4, 5};
        for (int number = 0; number < 12; number++) {
            int n = number;
            answers("carrier of " + n, carriers[n], NEW, x -> x.carrierOf(n));
            answers("carrier of " + n + " then", carriers[n], NEW, x -> x.carrierThen(n, 0));
            answers("owner of " + n, owners[n], NEW, x -> x.ownerOf(n));
            answers("debt and bond of " + n, 0, NEW, x -> x.debt(n) + x.bondOf(n));
            answers("bar of " + n, 0, NEW, x -> x.isBarred(n) ? 1 : 0);
            answers("call of " + n, -1, NEW, x -> x.callOf(n));
            for (int c = 0; c < 5; c++) {
                int carrier = c;
                answers("believed by " + c, carriers[n], NEW, x -> x.believed(carrier, n));
            }
        }
    }

    /** "numbers 0 to 11" */
    private void numbersAre0To11() {
        for (int bad : outside(12)) {
            refusesAlways("port of " + bad, INDEX, x -> x.port(bad, 3));
            refusesAlways("sell of " + bad, INDEX, x -> x.sell(bad, 3));
            refusesAlways("bond of " + bad, INDEX, x -> x.bond(bad, 3));
            refusesAlways("pay of " + bad, INDEX, x -> x.pay(bad, 1));
            refusesAlways("judge of " + bad, INDEX, x -> x.judge(bad));
        }
        for (int good : new int[] {0, 11}) {
            int talk = good == 0 ? 5 : 6;
            Story owing = x -> {
                x.call(good, talk);
                x.pass(3);
            };
            answers("port of " + good, 4, NEW, x -> x.port(good, 4) + x.carrierOf(good));
            answers("sell of " + good, good % 6, NEW, x -> x.sell(good, 3));
            answers("sold", 3, x -> x.sell(good, 3), x -> x.ownerOf(good));
            answers("bond of " + good, 6, NEW, x -> x.bond(good, 3) + x.bondOf(good));
            answers("pay of " + good, 2, owing, x -> x.pay(good, 1));
            answers("judge of " + good, 3, owing, x -> x.judge(good));
        }
    }

    /** "persons 0 to 5" */
    private void personsAre0To5() {
        for (int bad : outside(6)) {
            refusesAlways("sell to " + bad, INDEX, x -> x.sell(5, bad));
        }
        answers("sell to 0", 5, NEW, x -> x.sell(5, 0) + x.ownerOf(5));
        answers("sell to 5", 9, NEW, x -> x.sell(4, 5) + x.ownerOf(4));
    }

    /** "if the number is there" */
    private void portsToEachCarrier() {
        for (int bad : outside(5)) {
            refusesAlways("port to " + bad, INDEX, x -> x.port(5, bad));
        }
        for (int number = 0; number < 12; number++) {
            for (int carrier = 0; carrier < 5; carrier++) {
                int n = number;
                int c = carrier;
                String what = "port " + n + " to " + c;
                if (n % 5 == c) {
                    refuses(what, STATE, NEW, x -> x.port(n, c));
                    Story away = x -> x.port(n, (c + 1) % 5);
                    answers(what + ", back", 0, away, x -> x.port(n, c));
                } else {
                    answers(what, 0, NEW, x -> x.port(n, c));
                    Story there = x -> x.port(n, c);
                    answers(what + ", there", c, there, x -> x.carrierOf(n));
                    refuses(what + ", again", STATE, there, x -> x.port(n, c));
                }
            }
        }
    }

    private static Story ports(int count) {
        return x -> {
            for (int i = 0; i < count; i++) {
                int n = i % 12;
                x.port(n, (x.carrierOf(n) + 1) % 5);
            }
        };
    }

    /** "or 60 ports were made" */
    private void ports60() {
        answers("the 59th port", 3, ports(58), x -> x.port(0, 3) + x.carrierOf(0));
        answers("the 60th port", 3, ports(59), x -> x.port(0, 3) + x.carrierOf(0));
        for (int n = 0; n < 12; n++) {
            int number = n;
            refuses("the 61st port, of " + n, STATE, ports(60),
                x -> x.port(number, x.carrierOf(number) == 0 ? 4 : 0));
        }
        refuses("a port when full", STATE, FULL, x -> x.port(5, 1));
        Story refused = both(ports(59), x -> {
            x.call(5, 10);
            x.pass(1);
            Check.outcome(() -> x.port(5, 4));
            Check.outcome(() -> x.port(5, 0));
            Check.outcome(() -> x.port(0, x.carrierOf(0)));
            Check.outcome(() -> x.port(12, 0));
        });
        answers("the 60th port after refused ones", 3, refused, x -> x.port(0, 3) + x.carrierOf(0));
        refuses("the 61st port after refused ones", STATE,
            both(refused, x -> x.port(0, 3)), x -> x.port(0, 2));
    }

    /** "can be carried only if its bond is not less than the debt" */
    private void bondNotLessThanTheDebt() {
        answers("no debt and no bond", 0, owes(0, 0), x -> x.port(0, 1));
        answers("no debt and a bond", 0, owes(0, 1), x -> x.port(0, 1));
        for (int debt : new int[] {1, 2, 10, 4999}) {
            String what = "debt " + debt + " and ";
            refuses(what + "no bond", STATE, owes(debt, 0), x -> x.port(0, 1));
            refuses(what + "one less", STATE, owes(debt, debt - 1), x -> x.port(0, 1));
            answers(what + "as much", debt, owes(debt, debt), x -> x.port(0, 1));
            answers(what + "one more", debt, owes(debt, debt + 1), x -> x.port(0, 1));
            answers(what + "another number", 0, owes(debt, 0), x -> x.port(5, 1));
        }
        Story paid = both(owes(10, 9), x -> x.pay(0, 1));
        answers("as much once one is paid", 9, paid, x -> x.port(0, 1));
        Story talks = x -> {
            x.bond(0, 5);
            x.call(0, 5);
            x.pass(5);
        };
        answers("as much while it is in a call", 5, talks, x -> x.port(0, 1));
        refuses("a second more", STATE, both(talks, x -> x.pass(1)), x -> x.port(0, 1));
    }

    private void bondOf5000AndTheDebt() {
        answers("debt 5000 and bond 5000", 5000, owes(5000, 5000), x -> x.port(0, 1));
        refuses("debt 5001 and bond 5000", STATE, owes(5001, 5000), x -> x.port(0, 1));
        Story paid = both(owes(5001, 5000), x -> x.pay(0, 1));
        answers("debt 5001, one paid, and bond 5000", 5000, paid, x -> x.port(0, 1));
        refuses("debt 20000 and bond 5000", STATE, owes(20000, 5000), x -> x.port(0, 1));
    }

    /** "then the new carrier pays the debt to the old one, and it is owed to the new one" */
    private void debtGoesAlong() {
        Story before = both(owes(10, 11), x -> x.port(0, 3));
        answers("coins of the old one", 10, before, x -> x.coins(0));
        answers("coins of the new one", -10, before, x -> x.coins(3));
        answers("debt", 10, before, x -> x.debt(0));
        answers("debt anew", 10, before, x -> x.debtAnew(0));
        answers("bond", 11, before, x -> x.bondOf(0));
        answers("paid to the new one", -9, before, x -> x.pay(0, 1) - 9 + x.coins(3));
        answers("nothing to the old one", 10, before, x -> x.pay(0, 10) + x.coins(0));
        answers("the court gives to the new one", 0, before, x -> x.judge(0) + x.coins(3));
        answers("earned by the old one", 10, before, x -> x.earned(0) + x.earned(3));
        answers("earned anew by the old one", 10, before, x -> x.earnedAnew(0) + x.earnedAnew(3));
        Story on = both(before, x -> x.port(0, 4));
        answers("carried on, the one between", 0, on, x -> x.coins(3));
        answers("carried on, the last one", -10, on, x -> x.coins(4));
        Story none = x -> x.port(0, 3);
        answers("no debt, no coins of the old one", 0, none, x -> x.coins(0));
        answers("no debt, no coins of the new one", 0, none, x -> x.coins(3));
    }

    /** "if that person owns it" */
    private void salesToEachPerson() {
        for (int number = 0; number < 12; number++) {
            for (int person = 0; person < 6; person++) {
                int n = number;
                int p = person;
                String what = "sell " + n + " to " + p;
                if (n % 6 == p) {
                    refuses(what, STATE, NEW, x -> x.sell(n, p));
                    Story away = x -> x.sell(n, (p + 1) % 6);
                    answers(what + ", back", (p + 1) % 6, away, x -> x.sell(n, p));
                } else {
                    answers(what, n % 6, NEW, x -> x.sell(n, p));
                    Story sold = x -> x.sell(n, p);
                    answers(what + ", owned", p, sold, x -> x.ownerOf(n));
                    refuses(what + ", again", STATE, sold, x -> x.sell(n, p));
                }
            }
        }
    }

    private static Story sales(int count) {
        return x -> {
            for (int i = 0; i < count; i++) {
                int n = i % 12;
                x.sell(n, (x.ownerOf(n) + 1) % 6);
            }
        };
    }

    /** "or 60 were sold" */
    private void sales60() {
        answers("the 59th sale", 5, sales(58), x -> x.sell(0, 3));
        answers("the 60th sale", 5, sales(59), x -> x.sell(0, 3));
        answers("the 60th sale counts", 3, sales(59), x -> x.sell(0, 3) - 5 + x.ownerOf(0));
        for (int n = 0; n < 12; n++) {
            int number = n;
            refuses("the 61st sale, of " + n, STATE, sales(60),
                x -> x.sell(number, x.ownerOf(number) == 0 ? 5 : 0));
        }
        refuses("a sale when full", STATE, FULL, x -> x.sell(5, 1));
        Story refused = both(sales(59), x -> {
            Check.outcome(() -> x.sell(0, x.ownerOf(0)));
            Check.outcome(() -> x.sell(0, 6));
            Check.outcome(() -> x.sell(12, 0));
        });
        answers("the 60th sale after refused ones", 5, refused, x -> x.sell(0, 3));
        refuses("the 61st sale after refused ones", STATE,
            both(refused, x -> x.sell(0, 3)), x -> x.sell(0, 2));
    }

    /** "coins: 1 to 5000" */
    private void coinsOfABond() {
        int[] bad = {0, -1, 5001, -5000, 5002, LEAST, LEAST + 1, MOST - 1, MOST};
        for (int coins : bad) {
            refusesAlways("bond of " + coins, ARGUMENT, x -> x.bond(6, coins));
            refuses("bond of 5000 and " + coins, ARGUMENT, owes(0, 5000), x -> x.bond(0, coins));
        }
        for (int coins : new int[] {1, 2, 4999, 5000}) {
            answers("bond of " + coins, coins, NEW, x -> x.bond(0, coins));
            answers("bond then", coins, owes(0, coins), x -> x.bondOf(0));
            answers("bond of another one", 0, owes(0, coins), x -> x.bondOf(1) + x.bondOf(11));
        }
    }

    /** "if the bond would be above 5000", "at most 5000 in all" */
    private void bondAtMost5000() {
        for (int first : new int[] {1, 2, 2500, 4998, 4999, 5000}) {
            Story before = owes(0, first);
            int most = 5000 - first;
            String what = "bond of " + first + " and ";
            if (most > 0) {
                answers(what + "up to 5000", 5000, before, x -> x.bond(0, most));
            }
            if (most > 1) {
                answers(what + "one less", 4999, before, x -> x.bond(0, most - 1));
            }
            refuses(what + "one more", STATE, before, x -> x.bond(0, most + 1));
            refuses(what + "5000", STATE, before, x -> x.bond(0, 5000));
            answers(what + "5000 of another one", 5000, before, x -> x.bond(11, 5000));
        }
    }

    private void bondAfterTheCourt() {
        Story taken = both(owes(7, 5000), x -> x.judge(0));
        answers("what is left", 4993, taken, x -> x.bondOf(0));
        answers("up to 5000", 5000, taken, x -> x.bond(0, 7));
        answers("one less", 4999, taken, x -> x.bond(0, 6));
        refuses("one more", STATE, taken, x -> x.bond(0, 8));
    }

    /** "coins: 1 to its debt" */
    private void coinsToPay() {
        int[] bad = {0, -1, -2, LEAST, LEAST + 1, MOST - 1, MOST};
        for (int coins : bad) {
            refusesAlways("pay of " + coins, ARGUMENT, x -> x.pay(0, coins));
            refuses("pay of 10 " + coins, ARGUMENT, owes(10), x -> x.pay(0, coins));
        }
        refusesAlways("pay of no debt", ARGUMENT, x -> x.pay(5, 1));
        for (int debt : new int[] {1, 2, 10, 20000}) {
            String what = "pay of " + debt + ", ";
            answers(what + "one", debt - 1, owes(debt), x -> x.pay(0, 1));
            answers(what + "all", 0, owes(debt), x -> x.pay(0, debt));
            refuses(what + "one more", ARGUMENT, owes(debt), x -> x.pay(0, debt + 1));
            refuses(what + "of another one", ARGUMENT, owes(debt), x -> x.pay(5, 1));
            refuses(what + "and one more", ARGUMENT,
                both(owes(debt), x -> x.pay(0, debt)), x -> x.pay(0, 1));
            if (debt > 1) {
                answers(what + "all but one", 1, owes(debt), x -> x.pay(0, debt - 1));
            }
        }
        Story talks = x -> x.call(0, 5);
        refuses("pay in a call of no second", ARGUMENT, talks, x -> x.pay(0, 1));
        answers("pay in a call of one", 0, both(talks, x -> x.pass(1)), x -> x.pay(0, 1));
    }

    /** "What is paid goes to the carrier of the number." */
    private void paidGoesToTheCarrier() {
        answers("one", 1, owes(10), x -> x.pay(0, 1) - 9 + x.coins(0));
        answers("all", 10, owes(10), x -> x.pay(0, 10) + x.coins(0));
        answers("bond stays", 4, owes(10, 4), x -> x.pay(0, 10) + x.bondOf(0));
        answers("debt anew", 3, owes(10), x -> x.pay(0, 7) - 3 + x.debtAnew(0));
        answers("earned stays", 10, owes(10), x -> x.pay(0, 10) + x.earned(0));
        answers("spent stays", 10, owes(10), x -> x.pay(0, 10) + x.spent(0));
        answers("none to another carrier", 0, owes(10), x -> x.pay(0, 10) + x.coins(1));
    }

    /** "takes of a number with a debt what the bond has, at most the debt" */
    private void courtTakes() {
        for (int debt : new int[] {1, 2, 10, 5000, 5001, 20000}) {
            for (int bond : new int[] {0, 1, debt - 1, debt, debt + 1, 4999, 5000}) {
                if (bond > 5000) {
                    continue;
                }
                Story before = owes(debt, bond);
                Story after = both(before, x -> x.judge(0));
                int taken = Math.min(debt, bond);
                String what = "debt " + debt + ", bond " + bond + ": ";
                answers(what + "left", debt - taken, before, x -> x.judge(0));
                answers(what + "debt", debt - taken, after, x -> x.debt(0));
                answers(what + "debt anew", debt - taken, after, x -> x.debtAnew(0));
                answers(what + "bond", bond - taken, after, x -> x.bondOf(0));
                answers(what + "coins", taken, after, x -> x.coins(0));
                answers(what + "barred", debt > taken ? 1 : 0, after, x -> x.isBarred(0) ? 1 : 0);
                answers(what + "another one", 0, after, x -> x.isBarred(5) ? 1 : 0);
            }
        }
    }

    /** "if it has no debt" */
    private void courtOfNoDebt() {
        refusesAlways("judge of no debt", STATE, x -> x.judge(5));
        refusesAlways("judge of the one that is called", STATE, x -> x.judge(11));
        refuses("judge of a bond and no debt", STATE, owes(0, 5000), x -> x.judge(0));
        refuses("judge of a call of no second", STATE, x -> x.call(0, 5), x -> x.judge(0));
        refuses("judge of all paid", STATE, both(owes(3), x -> x.pay(0, 3)), x -> x.judge(0));
        refuses("judge of all taken", STATE, both(owes(3, 3), x -> x.judge(0)),
            x -> x.judge(0));
        refuses("judge of another one's debt", STATE, owes(3), x -> x.judge(5));
        answers("judge of one coin", 1, owes(1), x -> x.judge(0));
        answers("judge again", 1, both(owes(1), x -> x.judge(0)), x -> x.judge(0));
        Story free = both(NEW, x -> {
            x.setPrices(0, 0, 0);
            x.call(0, 5);
            x.pass(2000);
        });
        refuses("judge of a call for nothing", STATE, free, x -> x.judge(0));
    }

    /** "if some debt is left, the number is barred from calling until it has none" */
    private void barredUntilThereIsNone() {
        Story barred = both(owes(10, 4), x -> x.judge(0));
        refuses("barred", STATE, barred, x -> x.call(0, 1));
        refuses("barred, and would be lost", STATE,
            both(barred, x -> x.setTrunk(0, 1, 0)), x -> x.call(0, 1));
        answers("a barred one is called", 1, barred, x -> x.call(1, 0));
        answers("its way", 1, barred, x -> x.route(0, 1));
        answers("debt alone does not bar", 1, owes(10, 4), x -> x.call(0, 1));
        Story oneLeft = both(barred, x -> x.pay(0, 5));
        refuses("one is left", STATE, oneLeft, x -> x.call(0, 1));
        answers("one is left", 1, oneLeft, x -> x.isBarred(0) ? 1 : 0);
        Story none = both(barred, x -> x.pay(0, 6));
        answers("none is left", 0, none, x -> x.isBarred(0) ? 1 : 0);
        answers("none is left, call", 1, none, x -> x.call(0, 1));
        Story again = both(none, x -> {
            x.call(0, 1);
            x.pass(9);
            x.hangUp(1);
        });
        answers("a new debt does not bar", 0, again, x -> x.isBarred(0) ? 1 : 0);
        answers("a new debt does not bar, call", 2, again, x -> x.call(0, 1));
        Story oneShort = both(barred, x -> {
            x.bond(0, 5);
            x.judge(0);
        });
        answers("the court again, one short", 1, oneShort, x -> x.isBarred(0) ? 1 : 0);
        Story enough = both(barred, x -> {
            x.bond(0, 6);
            x.judge(0);
        });
        answers("the court again, enough", 0, enough, x -> x.isBarred(0) ? 1 : 0);
        Story bonded = both(barred, x -> x.bond(0, 4996));
        answers("a bond alone does not free", 1, bonded, x -> x.isBarred(0) ? 1 : 0);
        Story talks = x -> {
            x.call(0, 5);
            x.pass(3);
            x.judge(0);
        };
        answers("barred in its call, which goes on", 2, talks, x -> x.pass(2));
        answers("barred in its call", 1, talks, x -> x.isBarred(0) ? 1 : 0);
        Story paid = both(talks, x -> x.pay(0, 3));
        answers("barred in its call, all paid", 0, paid, x -> x.isBarred(0) ? 1 : 0);
        Story ported = both(barred, x -> {
            x.bond(0, 6);
            x.port(0, 1);
        });
        answers("a port does not free", 1, ported, x -> x.isBarred(0) ? 1 : 0);
        Story sold = both(barred, x -> x.sell(0, 3));
        answers("a sale does not free", 1, sold, x -> x.isBarred(0) ? 1 : 0);
    }

    /** "may be below 0" */
    private void coinsBelow0() {
        Story ported = x -> x.port(0, 1);
        answers("by a debt of 1", -1, both(owes(1, 1), ported), x -> x.coins(1));
        answers("by a debt of 5000", -5000, both(owes(5000, 5000), ported), x -> x.coins(1));
        Story lost = x -> {
            x.port(2, 3);
            x.setTrunk(2, 3, 0);
        };
        answers("by a lost call", -5, lost, x -> x.call(0, 2) + 1 + x.coins(2));
        answers("by two", -10, lost, x -> x.call(0, 2) + x.call(0, 2) + 2 + x.coins(2));
        Story byATrunk = x -> {
            x.call(0, 1);
            x.setTrunk(0, 1, 0);
        };
        answers("by a call lost by a trunk", -5, byATrunk, x -> x.coins(1));
    }
}
