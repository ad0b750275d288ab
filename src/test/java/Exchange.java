/** The face of the document, so that one story can be told to the class and to the Model. */
interface Exchange {
    int setPrices(int carrier, int dear, int cheap);

    int setDelay(int carrier, int seconds);

    int setTrunk(int carrier, int other, int lines);

    int port(int number, int carrier);

    int sell(int number, int person);

    int bond(int number, int coins);

    int pay(int number, int coins);

    int judge(int number);

    int call(int number, int other);

    int hangUp(int call);

    int pass(int seconds);

    int second();

    boolean isDear();

    int carrierOf(int number);

    int carrierThen(int number, int second);

    int ownerOf(int number);

    int believed(int carrier, int number);

    int debt(int number);

    int debtAnew(int number);

    int bondOf(int number);

    boolean isBarred(int number);

    int callOf(int number);

    int free(int carrier, int other);

    int route(int number, int other);

    int calls();

    int lost();

    int state(int call);

    int trunks(int call);

    int carrierAt(int call, int place);

    int seconds(int call);

    int charged(int call);

    int chargedAnew(int call);

    int coins(int carrier);

    int earned(int carrier);

    int earnedAnew(int carrier);

    int spent(int person);

    int spentAnew(int person);

    int losses(int carrier);

    /** The call of that name; it takes as many of the three as the document gives it. */
    default long ask(String name, int a, int b, int c) {
        switch (name) {
            case "setPrices": return setPrices(a, b, c);
            case "setDelay": return setDelay(a, b);
            case "setTrunk": return setTrunk(a, b, c);
            case "port": return port(a, b);
            case "sell": return sell(a, b);
            case "bond": return bond(a, b);
            case "pay": return pay(a, b);
            case "judge": return judge(a);
            case "call": return call(a, b);
            case "hangUp": return hangUp(a);
            case "pass": return pass(a);
            case "second": return second();
            case "isDear": return isDear() ? 1 : 0;
            case "carrierOf": return carrierOf(a);
            case "carrierThen": return carrierThen(a, b);
            case "ownerOf": return ownerOf(a);
            case "believed": return believed(a, b);
            case "debt": return debt(a);
            case "debtAnew": return debtAnew(a);
            case "bondOf": return bondOf(a);
            case "isBarred": return isBarred(a) ? 1 : 0;
            case "callOf": return callOf(a);
            case "free": return free(a, b);
            case "route": return route(a, b);
            case "calls": return calls();
            case "lost": return lost();
            case "state": return state(a);
            case "trunks": return trunks(a);
            case "carrierAt": return carrierAt(a, b);
            case "seconds": return seconds(a);
            case "charged": return charged(a);
            case "chargedAnew": return chargedAnew(a);
            case "coins": return coins(a);
            case "earned": return earned(a);
            case "earnedAnew": return earnedAnew(a);
            case "spent": return spent(a);
            case "spentAnew": return spentAnew(a);
            case "losses": return losses(a);
            default: throw new AssertionError(name);
        }
    }
}
