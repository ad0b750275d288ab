/**
 * A telephone exchange of several carriers: see the document for what each call promises.
 *
 * What is kept (debts, coins, sums) is changed as time goes by; what is told "anew" is found
 * from the histories of ports, sales and prices and from the calls alone.
 */
public final class CarriedNumbers {
    private static final int CARRIERS = 5;
    private static final int PERSONS = 6;
    private static final int NUMBERS = 12;

    private static final int LAST_SECOND = 20000;
    private static final int LONGEST_PASS = 2000;
    private static final int DAY = 24 * 60;
    private static final int DEAR_FROM = 8 * 60;
    private static final int DEAR_SECONDS = 12 * 60;

    private static final int MOST_CHANGES = 60;
    private static final int MOST_CALLS = 60;
    private static final int MOST_PRICE = 9;
    private static final int MOST_DELAY = 5000;
    private static final int MOST_LINES = 5;
    private static final int MOST_BOND = 5000;

    private static final int FIRST_DEAR = 2;
    private static final int FIRST_CHEAP = 1;
    private static final int FIRST_DELAY = 100;
    private static final int FIRST_LINES = 2;
    private static final int LOSS = 5;

    // A call's seconds are cut at each port, sale and price that is told while it goes on.
    private static final int MOST_PIECES = 3 * MOST_CHANGES + 1;

    private static final int NONE = -1;
    private static final int ANY = -1;

    private static final int GOES_ON = 0;
    private static final int ENDED = 1;
    private static final int LOST = 2;

    private final Numbers numbers;
    private final Carriers carriers;
    private final Row spendings;
    private final Trunks network;
    private final Ports ports;
    private final History sales;
    private final Tariffs tariffs;
    private final Calls talks;
    private final Way way;
    private int now;
    private int losts;

    public CarriedNumbers() {
        numbers = new Numbers();
        carriers = new Carriers();
        spendings = new Row(PERSONS, 0);
        network = new Trunks();
        ports = new Ports();
        sales = new History();
        tariffs = new Tariffs();
        talks = new Calls();
        way = new Way();
        now = 0;
        losts = 0;
    }

    // ---- carriers and trunks

    public int setPrices(int carrier, int dear, int cheap)
            throws IndexOutOfBoundsException, IllegalArgumentException, IllegalStateException {
        needCarrier(carrier);
        needWithin(dear, 0, MOST_PRICE);
        needWithin(cheap, 0, MOST_PRICE);
        if (tariffs.isFull()) {
            throw new IllegalStateException("prices were set too often");
        }
        int before = tariffs.dearAt(carrier, now);
        tariffs.change(carrier, now, dear, cheap);
        return before;
    }

    public int setDelay(int carrier, int seconds)
            throws IndexOutOfBoundsException, IllegalArgumentException {
        needCarrier(carrier);
        needWithin(seconds, 0, MOST_DELAY);
        int before = carriers.delays.get(carrier);
        carriers.delays.set(carrier, seconds);
        return before;
    }

    public int setTrunk(int carrier, int other, int lines)
            throws IndexOutOfBoundsException, IllegalArgumentException {
        needCarrier(carrier);
        needCarrier(other);
        needDifferent(carrier, other);
        needWithin(lines, 0, MOST_LINES);
        network.change(carrier, other, lines);
        return loseTooMany(carrier, other);
    }

    // ---- numbers

    public int port(int number, int carrier)
            throws IndexOutOfBoundsException, IllegalStateException {
        needNumber(number);
        needCarrier(carrier);
        int from = numbers.carriers.get(number);
        int debt = numbers.debts.get(number);
        if (from == carrier) {
            throw new IllegalStateException("the number is there");
        }
        if (numbers.bonds.get(number) < debt) {
            throw new IllegalStateException("the bond is less than the debt");
        }
        if (ports.isFull()) {
            throw new IllegalStateException("too many ports were made");
        }
        ports.carry(number, from, carrier, now, carriers.delays);
        numbers.carriers.set(number, carrier);
        carriers.give(carrier, from, debt);
        return debt;
    }

    public int sell(int number, int person)
            throws IndexOutOfBoundsException, IllegalStateException {
        needNumber(number);
        needPerson(person);
        int before = numbers.owners.get(number);
        if (before == person) {
            throw new IllegalStateException("that person owns the number");
        }
        if (sales.isFull()) {
            throw new IllegalStateException("too many numbers were sold");
        }
        sales.add(number, now, person);
        numbers.owners.set(number, person);
        return before;
    }

    public int bond(int number, int coins)
            throws IndexOutOfBoundsException, IllegalArgumentException, IllegalStateException {
        needNumber(number);
        needWithin(coins, 1, MOST_BOND);
        int bond = numbers.bonds.get(number) + coins;
        if (bond > MOST_BOND) {
            throw new IllegalStateException("the bond would be too high");
        }
        numbers.bonds.set(number, bond);
        return bond;
    }

    public int pay(int number, int coins)
            throws IndexOutOfBoundsException, IllegalArgumentException {
        needNumber(number);
        needWithin(coins, 1, numbers.debts.get(number));
        return settle(number, coins);
    }

    public int judge(int number) throws IndexOutOfBoundsException, IllegalStateException {
        needNumber(number);
        int debt = numbers.debts.get(number);
        if (debt <= 0) {
            throw new IllegalStateException("the number has no debt");
        }
        int taken = Math.min(numbers.bonds.get(number), debt);
        numbers.bonds.add(number, -taken);
        int left = settle(number, taken);
        if (left > 0) {
            numbers.bars.set(number, 1);
        }
        return left;
    }

    // ---- calls and time

    public int call(int number, int other)
            throws IndexOutOfBoundsException, IllegalArgumentException, IllegalStateException {
        needNumber(number);
        needNumber(other);
        needDifferent(number, other);
        if (numbers.talks.get(number) != NONE || numbers.talks.get(other) != NONE) {
            throw new IllegalStateException("a number is in a call");
        }
        if (numbers.bars.get(number) != 0) {
            throw new IllegalStateException("the number is barred");
        }
        if (talks.isFull()) {
            throw new IllegalStateException("too many calls were made");
        }
        if (findWay(number, other)) {
            return beginTalk(number, other);
        }
        losts++;
        if (way.length > 1) {
            carriers.payLoss(way.last(), way.first());
        }
        return NONE;
    }

    public int hangUp(int call) throws IndexOutOfBoundsException, IllegalStateException {
        needCall(call);
        if (!talks.goesOn(call)) {
            throw new IllegalStateException("the call has ended");
        }
        endTalk(call, ENDED);
        return talks.lasted(call, now);
    }

    public int pass(int seconds) throws IllegalArgumentException, IllegalStateException {
        needWithin(seconds, 1, LONGEST_PASS);
        if (now + seconds > LAST_SECOND) {
            throw new IllegalStateException("the second of now would be too late");
        }
        int until = now + seconds;
        int sum = 0;
        for (int call = 0; call < talks.count; call++) {
            if (talks.goesOn(call)) {
                sum += chargeUntil(call, until);
            }
        }
        now = until;
        return sum;
    }

    // ---- what there is; nothing from here on changes anything

    public int second() {
        return now;
    }

    public boolean isDear() {
        int inDay = now % DAY;
        return inDay >= DEAR_FROM && inDay < DEAR_FROM + DEAR_SECONDS;
    }

    public int carrierOf(int number) throws IndexOutOfBoundsException {
        needNumber(number);
        return numbers.carriers.get(number);
    }

    public int carrierThen(int number, int second)
            throws IndexOutOfBoundsException, IllegalArgumentException {
        needNumber(number);
        needWithin(second, 0, now);
        return ports.placeAt(number, second);
    }

    public int ownerOf(int number) throws IndexOutOfBoundsException {
        needNumber(number);
        return numbers.owners.get(number);
    }

    public int believed(int carrier, int number) throws IndexOutOfBoundsException {
        needCarrier(carrier);
        needNumber(number);
        return ports.placeKnownTo(carrier, number, now);
    }

    public int debt(int number) throws IndexOutOfBoundsException {
        needNumber(number);
        return numbers.debts.get(number);
    }

    public int debtAnew(int number) throws IndexOutOfBoundsException {
        needNumber(number);
        int sum = 0;
        for (int call = 0; call < talks.count; call++) {
            if (talks.callers.get(call) == number) {
                sum += chargesAnew(call, ANY, ANY);
            }
        }
        return sum - numbers.payments.get(number);
    }

    public int bondOf(int number) throws IndexOutOfBoundsException {
        needNumber(number);
        return numbers.bonds.get(number);
    }

    public boolean isBarred(int number) throws IndexOutOfBoundsException {
        needNumber(number);
        return numbers.bars.get(number) != 0;
    }

    public int callOf(int number) throws IndexOutOfBoundsException {
        needNumber(number);
        return numbers.talks.get(number);
    }

    public int free(int carrier, int other) throws IndexOutOfBoundsException {
        needCarrier(carrier);
        needCarrier(other);
        return carrier == other ? 0 : network.left(carrier, other);
    }

    public int route(int number, int other)
            throws IndexOutOfBoundsException, IllegalArgumentException {
        needNumber(number);
        needNumber(other);
        needDifferent(number, other);
        return findWay(number, other) ? way.length - 1 : NONE;
    }

    // ---- calls as they are

    public int calls() {
        return talks.count;
    }

    public int lost() {
        return losts;
    }

    public int state(int call) throws IndexOutOfBoundsException {
        needCall(call);
        return talks.states.get(call);
    }

    public int trunks(int call) throws IndexOutOfBoundsException {
        needCall(call);
        return talks.lengths.get(call) - 1;
    }

    public int carrierAt(int call, int place) throws IndexOutOfBoundsException {
        needCall(call);
        if (place < 0 || place >= talks.lengths.get(call)) {
            throw new IndexOutOfBoundsException("not so many carriers were on its way");
        }
        return talks.stop(call, place);
    }

    public int seconds(int call) throws IndexOutOfBoundsException {
        needCall(call);
        return talks.lasted(call, now);
    }

    public int charged(int call) throws IndexOutOfBoundsException {
        needCall(call);
        return talks.charges.get(call);
    }

    public int chargedAnew(int call) throws IndexOutOfBoundsException {
        needCall(call);
        return chargesAnew(call, ANY, ANY);
    }

    // ---- books

    public int coins(int carrier) throws IndexOutOfBoundsException {
        needCarrier(carrier);
        return carriers.purses.get(carrier);
    }

    public int earned(int carrier) throws IndexOutOfBoundsException {
        needCarrier(carrier);
        return carriers.earnings.get(carrier);
    }

    public int earnedAnew(int carrier) throws IndexOutOfBoundsException {
        needCarrier(carrier);
        int sum = 0;
        for (int call = 0; call < talks.count; call++) {
            sum += chargesAnew(call, carrier, ANY);
        }
        return sum;
    }

    public int spent(int person) throws IndexOutOfBoundsException {
        needPerson(person);
        return spendings.get(person);
    }

    public int spentAnew(int person) throws IndexOutOfBoundsException {
        needPerson(person);
        int sum = 0;
        for (int call = 0; call < talks.count; call++) {
            sum += chargesAnew(call, ANY, person);
        }
        return sum;
    }

    public int losses(int carrier) throws IndexOutOfBoundsException {
        needCarrier(carrier);
        return carriers.losses.get(carrier);
    }

    // ---- what the calls of the face need

    private static void needCarrier(int carrier) {
        if (carrier < 0 || carrier >= CARRIERS) {
            throw new IndexOutOfBoundsException("no such carrier");
        }
    }

    private static void needPerson(int person) {
        if (person < 0 || person >= PERSONS) {
            throw new IndexOutOfBoundsException("no such person");
        }
    }

    private static void needNumber(int number) {
        if (number < 0 || number >= NUMBERS) {
            throw new IndexOutOfBoundsException("no such number");
        }
    }

    private void needCall(int call) {
        if (call < 0 || call >= talks.count) {
            throw new IndexOutOfBoundsException("no such call");
        }
    }

    private static void needDifferent(int one, int other) {
        if (one == other) {
            throw new IllegalArgumentException("both are the same");
        }
    }

    private static void needWithin(int value, int least, int most) {
        if (value < least || value > most) {
            throw new IllegalArgumentException("out of range");
        }
    }

    private int settle(int number, int paid) {
        numbers.debts.add(number, -paid);
        numbers.payments.add(number, paid);
        carriers.purses.add(numbers.carriers.get(number), paid);
        int left = numbers.debts.get(number);
        if (left == 0) {
            numbers.bars.set(number, 0);
        }
        return left;
    }

    private boolean findWay(int number, int other) {
        int goal = numbers.carriers.get(other);
        way.begin(numbers.carriers.get(number));
        for (int step = 0; step < CARRIERS && way.last() != goal; step++) {
            int next = ports.placeKnownTo(way.last(), other, now);
            if (way.has(next) || network.left(way.last(), next) <= 0) {
                return false;
            }
            way.goOn(next);
        }
        return way.last() == goal;
    }

    private int beginTalk(int number, int other) {
        int call = talks.begin(number, other, now, way);
        takeLines(call, 1);
        numbers.talks.set(number, call);
        numbers.talks.set(other, call);
        return call;
    }

    private void endTalk(int call, int state) {
        talks.end(call, now, state);
        takeLines(call, -1);
        numbers.talks.set(talks.callers.get(call), NONE);
        numbers.talks.set(talks.others.get(call), NONE);
    }

    private void takeLines(int call, int count) {
        int last = talks.lengths.get(call) - 1;
        for (int place = 0; place < last; place++) {
            network.take(talks.stop(call, place), talks.stop(call, place + 1), count);
        }
    }

    private int loseTooMany(int carrier, int other) {
        int count = 0;
        for (int call = talks.count - 1; call >= 0 && network.left(carrier, other) < 0; call--) {
            int place = talks.placeOf(call, carrier);
            int otherPlace = talks.placeOf(call, other);
            boolean near = place - otherPlace == 1 || otherPlace - place == 1;
            if (talks.goesOn(call) && place != NONE && otherPlace != NONE && near) {
                endTalk(call, LOST);
                boolean cameLater = place > otherPlace;
                carriers.payLoss(cameLater ? carrier : other, cameLater ? other : carrier);
                count++;
            }
        }
        losts += count;
        return count;
    }

    private int chargeUntil(int call, int until) {
        int number = talks.callers.get(call);
        int carrier = numbers.carriers.get(number);
        int charge = tariffs.charge(carrier, now, until);
        talks.charges.add(call, charge);
        numbers.debts.add(number, charge);
        carriers.earnings.add(carrier, charge);
        spendings.add(numbers.owners.get(number), charge);
        return charge;
    }

    private int chargesAnew(int call, int carrier, int person) {
        int number = talks.callers.get(call);
        int end = talks.endOf(call, now);
        int from = talks.begins.get(call);
        int sum = 0;
        for (int piece = 0; piece < MOST_PIECES && from < end; piece++) {
            int charger = ports.placeAt(number, from);
            int payer = sales.valueAt(number, from, number % PERSONS);
            int until = ports.changes.nextAfter(number, from, end);
            until = sales.nextAfter(number, from, until);
            until = tariffs.nextAfter(charger, from, until);
            if ((carrier == ANY || carrier == charger) && (person == ANY || person == payer)) {
                sum += tariffs.charge(charger, from, until);
            }
            from = until;
        }
        return sum;
    }

    /** Integers of which none outside the row is ever touched, so that no index can be wrong. */
    private static final class Row {
        private final int[] cells;

        Row(int length, int first) {
            cells = new int[Math.max(length, 0)];
            for (int i = 0; i < cells.length; i++) {
                cells[i] = first;
            }
        }

        int get(int i) {
            return i >= 0 && i < cells.length ? cells[i] : 0;
        }

        void set(int i, int value) {
            if (i >= 0 && i < cells.length) {
                cells[i] = value;
            }
        }

        void add(int i, int more) {
            if (i >= 0 && i < cells.length) {
                cells[i] += more;
            }
        }
    }

    /** What was told of each key and in which second, in the order of telling. */
    private static final class History {
        final Row keys;
        final Row starts;
        final Row values;
        int count;

        History() {
            keys = new Row(MOST_CHANGES, 0);
            starts = new Row(MOST_CHANGES, 0);
            values = new Row(MOST_CHANGES, 0);
            count = 0;
        }

        boolean isFull() {
            return count >= MOST_CHANGES;
        }

        void add(int key, int start, int value) {
            if (isFull()) {
                return;
            }
            keys.set(count, key);
            starts.set(count, start);
            values.set(count, value);
            count++;
        }

        int valueAt(int key, int second, int atFirst) {
            for (int i = count - 1; i >= 0; i--) {
                if (keys.get(i) == key && starts.get(i) <= second) {
                    return values.get(i);
                }
            }
            return atFirst;
        }

        int nextAfter(int key, int second, int end) {
            for (int i = 0; i < count; i++) {
                if (keys.get(i) == key && starts.get(i) > second) {
                    return Math.min(starts.get(i), end);
                }
            }
            return end;
        }
    }

    private static final class Ports {
        final History changes;
        final Row news;

        Ports() {
            changes = new History();
            news = new Row(MOST_CHANGES * CARRIERS, 0);
        }

        boolean isFull() {
            return changes.isFull();
        }

        void carry(int number, int from, int to, int second, Row delays) {
            int row = changes.count * CARRIERS;
            for (int carrier = 0; carrier < CARRIERS; carrier++) {
                boolean takesPart = carrier == from || carrier == to;
                news.set(row + carrier, takesPart ? second : second + delays.get(carrier));
            }
            changes.add(number, second, to);
        }

        int placeAt(int number, int second) {
            return changes.valueAt(number, second, number % CARRIERS);
        }

        int placeKnownTo(int carrier, int number, int second) {
            for (int i = changes.count - 1; i >= 0; i--) {
                boolean known = news.get(i * CARRIERS + carrier) <= second;
                if (known && changes.keys.get(i) == number) {
                    return changes.values.get(i);
                }
            }
            return number % CARRIERS;
        }
    }

    private static final class Tariffs {
        final History dears;
        final History cheaps;

        Tariffs() {
            dears = new History();
            cheaps = new History();
        }

        boolean isFull() {
            return dears.isFull();
        }

        void change(int carrier, int second, int dear, int cheap) {
            dears.add(carrier, second, dear);
            cheaps.add(carrier, second, cheap);
        }

        int dearAt(int carrier, int second) {
            return dears.valueAt(carrier, second, FIRST_DEAR);
        }

        int nextAfter(int carrier, int second, int end) {
            return dears.nextAfter(carrier, second, end);
        }

        // Right only where no price of the carrier changes after the first of these seconds.
        int charge(int carrier, int from, int until) {
            int dear = dearBefore(until) - dearBefore(from);
            int cheap = until - from - dear;
            int cheapPrice = cheaps.valueAt(carrier, from, FIRST_CHEAP);
            return dear * dearAt(carrier, from) + cheap * cheapPrice;
        }

        private static int dearBefore(int second) {
            int inDay = Math.max(second % DAY - DEAR_FROM, 0);
            return second / DAY * DEAR_SECONDS + Math.min(inDay, DEAR_SECONDS);
        }
    }

    private static final class Numbers {
        final Row carriers;
        final Row owners;
        final Row debts;
        final Row payments;
        final Row bonds;
        final Row bars;
        final Row talks;

        Numbers() {
            carriers = new Row(NUMBERS, 0);
            owners = new Row(NUMBERS, 0);
            debts = new Row(NUMBERS, 0);
            payments = new Row(NUMBERS, 0);
            bonds = new Row(NUMBERS, 0);
            bars = new Row(NUMBERS, 0);
            talks = new Row(NUMBERS, NONE);
            for (int number = 0; number < NUMBERS; number++) {
                carriers.set(number, number % CARRIERS);
                owners.set(number, number % PERSONS);
            }
        }
    }

    private static final class Carriers {
        final Row delays;
        final Row purses;
        final Row earnings;
        final Row losses;

        Carriers() {
            delays = new Row(CARRIERS, FIRST_DELAY);
            purses = new Row(CARRIERS, 0);
            earnings = new Row(CARRIERS, 0);
            losses = new Row(CARRIERS, 0);
        }

        void give(int from, int to, int coins) {
            purses.add(from, -coins);
            purses.add(to, coins);
        }

        void payLoss(int from, int to) {
            give(from, to, LOSS);
            losses.add(from, LOSS);
        }
    }

    private static final class Trunks {
        private final Row all;
        private final Row taken;

        Trunks() {
            all = new Row(CARRIERS * CARRIERS, FIRST_LINES);
            taken = new Row(CARRIERS * CARRIERS, 0);
        }

        // A trunk is one and the same from either end.
        private static int between(int carrier, int other) {
            return Math.min(carrier, other) * CARRIERS + Math.max(carrier, other);
        }

        void change(int carrier, int other, int count) {
            all.set(between(carrier, other), count);
        }

        void take(int carrier, int other, int count) {
            taken.add(between(carrier, other), count);
        }

        int left(int carrier, int other) {
            int trunk = between(carrier, other);
            return all.get(trunk) - taken.get(trunk);
        }
    }

    private static final class Way {
        final Row stops;
        int length;

        Way() {
            stops = new Row(CARRIERS, 0);
            length = 0;
        }

        void begin(int carrier) {
            stops.set(0, carrier);
            length = 1;
        }

        void goOn(int carrier) {
            stops.set(length, carrier);
            length++;
        }

        int first() {
            return stops.get(0);
        }

        int last() {
            return stops.get(length - 1);
        }

        boolean has(int carrier) {
            for (int place = 0; place < length; place++) {
                if (stops.get(place) == carrier) {
                    return true;
                }
            }
            return false;
        }
    }

    private static final class Calls {
        final Row callers;
        final Row others;
        final Row begins;
        final Row ends;
        final Row states;
        final Row charges;
        final Row lengths;
        final Row stops;
        int count;

        Calls() {
            callers = new Row(MOST_CALLS, 0);
            others = new Row(MOST_CALLS, 0);
            begins = new Row(MOST_CALLS, 0);
            ends = new Row(MOST_CALLS, 0);
            states = new Row(MOST_CALLS, GOES_ON);
            charges = new Row(MOST_CALLS, 0);
            lengths = new Row(MOST_CALLS, 0);
            stops = new Row(MOST_CALLS * CARRIERS, 0);
            count = 0;
        }

        boolean isFull() {
            return count >= MOST_CALLS;
        }

        int begin(int caller, int other, int second, Way way) {
            int call = count;
            callers.set(call, caller);
            others.set(call, other);
            begins.set(call, second);
            lengths.set(call, way.length);
            for (int place = 0; place < way.length; place++) {
                stops.set(call * CARRIERS + place, way.stops.get(place));
            }
            count++;
            return call;
        }

        void end(int call, int second, int state) {
            ends.set(call, second);
            states.set(call, state);
        }

        boolean goesOn(int call) {
            return states.get(call) == GOES_ON;
        }

        int endOf(int call, int second) {
            return goesOn(call) ? second : ends.get(call);
        }

        int lasted(int call, int second) {
            return endOf(call, second) - begins.get(call);
        }

        int stop(int call, int place) {
            return stops.get(call * CARRIERS + place);
        }

        int placeOf(int call, int carrier) {
            int length = lengths.get(call);
            for (int place = 0; place < length; place++) {
                if (stop(call, place) == carrier) {
                    return place;
                }
            }
            return NONE;
        }
    }
}
