/** The class under test; a test that makes more calls than the document promises fails. */
final class Counted implements Exchange {
    private static final int MOST_CALLS = 512;

    private final CarriedNumbers x;
    private int made = 0;

    Counted() {
        this(new CarriedNumbers());
    }

    Counted(CarriedNumbers x) {
        this.x = x;
    }

    int left() {
        return MOST_CALLS - made;
    }

    private CarriedNumbers counted() {
        if (made >= MOST_CALLS) {
            throw new AssertionError("a test makes more than 512 calls of one object");
        }
        made++;
        return x;
    }

    @Override
    public int setPrices(int carrier, int dear, int cheap) {
        return counted().setPrices(carrier, dear, cheap);
    }

    @Override
    public int setDelay(int carrier, int seconds) {
        return counted().setDelay(carrier, seconds);
    }

    @Override
    public int setTrunk(int carrier, int other, int lines) {
        return counted().setTrunk(carrier, other, lines);
    }

    @Override
    public int port(int number, int carrier) {
        return counted().port(number, carrier);
    }

    @Override
    public int sell(int number, int person) {
        return counted().sell(number, person);
    }

    @Override
    public int bond(int number, int coins) {
        return counted().bond(number, coins);
    }

    @Override
    public int pay(int number, int coins) {
        return counted().pay(number, coins);
    }

    @Override
    public int judge(int number) {
        return counted().judge(number);
    }

    @Override
    public int call(int number, int other) {
        return counted().call(number, other);
    }

    @Override
    public int hangUp(int call) {
        return counted().hangUp(call);
    }

    @Override
    public int pass(int seconds) {
        return counted().pass(seconds);
    }

    @Override
    public int second() {
        return counted().second();
    }

    @Override
    public boolean isDear() {
        return counted().isDear();
    }

    @Override
    public int carrierOf(int number) {
        return counted().carrierOf(number);
    }

    @Override
    public int carrierThen(int number, int second) {
        return counted().carrierThen(number, second);
    }

    @Override
    public int ownerOf(int number) {
        return counted().ownerOf(number);
    }

    @Override
    public int believed(int carrier, int number) {
        return counted().believed(carrier, number);
    }

    @Override
    public int debt(int number) {
        return counted().debt(number);
    }

    @Override
    public int debtAnew(int number) {
        return counted().debtAnew(number);
    }

    @Override
    public int bondOf(int number) {
        return counted().bondOf(number);
    }

    @Override
    public boolean isBarred(int number) {
        return counted().isBarred(number);
    }

    @Override
    public int callOf(int number) {
        return counted().callOf(number);
    }

    @Override
    public int free(int carrier, int other) {
        return counted().free(carrier, other);
    }

    @Override
    public int route(int number, int other) {
        return counted().route(number, other);
    }

    @Override
    public int calls() {
        return counted().calls();
    }

    @Override
    public int lost() {
        return counted().lost();
    }

    @Override
    public int state(int call) {
        return counted().state(call);
    }

    @Override
    public int trunks(int call) {
        return counted().trunks(call);
    }

    @Override
    public int carrierAt(int call, int place) {
        return counted().carrierAt(call, place);
    }

    @Override
    public int seconds(int call) {
        return counted().seconds(call);
    }

    @Override
    public int charged(int call) {
        return counted().charged(call);
    }

    @Override
    public int chargedAnew(int call) {
        return counted().chargedAnew(call);
    }

    @Override
    public int coins(int carrier) {
        return counted().coins(carrier);
    }

    @Override
    public int earned(int carrier) {
        return counted().earned(carrier);
    }

    @Override
    public int earnedAnew(int carrier) {
        return counted().earnedAnew(carrier);
    }

    @Override
    public int spent(int person) {
        return counted().spent(person);
    }

    @Override
    public int spentAnew(int person) {
        return counted().spentAnew(person);
    }

    @Override
    public int losses(int carrier) {
        return counted().losses(carrier);
    }
}
