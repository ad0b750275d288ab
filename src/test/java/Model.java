import java.util.ArrayList;
import java.util.List;

/**
 * The document once more, second by second and with nothing shared with the class: each second of
 * talk is charged by itself, and what is told anew is what was so charged.
 */
final class Model implements Exchange {
    record Port(int number, int carrier, int[] known) { }

    static final class Talk {
        int caller;
        int other;
        int begin;
        int end = -1;
        int state = 0;
        int charged = 0;
        List<Integer> way;

        boolean takes(int a, int b) {
            for (int i = 0; i + 1 < way.size(); i++) {
                if (way.get(i) == a && way.get(i + 1) == b || way.get(i) == b && way.get(i + 1) == a) {
                    return state == 0;
                }
            }
            return false;
        }
    }

    private final int[][] price = new int[5][2];
    private final int[] delay = new int[5];
    private final int[][] lines = new int[5][5];
    private final int[] coins = new int[5];
    private final int[] losses = new int[5];
    private final List<List<Integer>> places = new ArrayList<>();
    private final int[] at = new int[12];
    private final int[] owner = new int[12];
    private final int[] bond = new int[12];
    private final int[] paid = new int[12];
    private final boolean[] barred = new boolean[12];
    private final List<Port> ports = new ArrayList<>();
    private final List<Talk> talks = new ArrayList<>();
    private final int[] owed = new int[12];
    private final int[] earned = new int[5];
    private final int[] spent = new int[6];
    private int sales = 0;
    private int prices = 0;
    private int lost = 0;
    private int now = 0;

    Model() {
        for (int c = 0; c < 5; c++) {
            price[c][0] = 2;
            price[c][1] = 1;
            delay[c] = 100;
            for (int d = 0; d < 5; d++) {
                lines[c][d] = 2;
            }
        }
        for (int n = 0; n < 12; n++) {
            at[n] = n % 5;
            owner[n] = n % 6;
            places.add(new ArrayList<>());
        }
    }

    private static void index(boolean good) {
        if (!good) {
            throw new IndexOutOfBoundsException();
        }
    }

    private static void argument(boolean good) {
        if (!good) {
            throw new IllegalArgumentException();
        }
    }

    private static void lawful(boolean good) {
        if (!good) {
            throw new IllegalStateException();
        }
    }

    private static boolean in(int value, int least, int most) {
        return least <= value && value <= most;
    }

    private static void carrier(int c) {
        index(in(c, 0, 4));
    }

    private static void number(int n) {
        index(in(n, 0, 11));
    }

    private static void person(int p) {
        index(in(p, 0, 5));
    }

    private Talk talk(int call) {
        index(in(call, 0, talks.size() - 1));
        return talks.get(call);
    }

    private static boolean dear(int second) {
        int hour = second / 60 % 24;
        return hour >= 8 && hour <= 19;
    }

    @Override
    public int setPrices(int c, int dear, int cheap) {
        carrier(c);
        argument(in(dear, 0, 9) && in(cheap, 0, 9));
        lawful(prices < 60);
        prices++;
        int before = price[c][0];
        price[c][0] = dear;
        price[c][1] = cheap;
        return before;
    }

    @Override
    public int setDelay(int c, int seconds) {
        carrier(c);
        argument(in(seconds, 0, 5000));
        int before = delay[c];
        delay[c] = seconds;
        return before;
    }

    @Override
    public int setTrunk(int c, int other, int count) {
        carrier(c);
        carrier(other);
        argument(c != other && in(count, 0, 5));
        lines[c][other] = count;
        lines[other][c] = count;
        int gone = 0;
        while (free(c, other) < 0) {
            Talk last = null;
            for (Talk t : talks) {
                if (t.takes(c, other)) {
                    last = t;
                }
            }
            last.state = 2;
            last.end = now;
            boolean later = last.way.indexOf(c) > last.way.indexOf(other);
            payLoss(later ? c : other, later ? other : c);
            gone++;
        }
        lost += gone;
        return gone;
    }

    private void payLoss(int from, int to) {
        coins[from] -= 5;
        coins[to] += 5;
        losses[from] += 5;
    }

    @Override
    public int port(int n, int c) {
        number(n);
        carrier(c);
        int debt = debt(n);
        lawful(at[n] != c && bond[n] >= debt && ports.size() < 60);
        int[] known = new int[5];
        for (int k = 0; k < 5; k++) {
            known[k] = k == c || k == at[n] ? now : now + delay[k];
        }
        ports.add(new Port(n, c, known));
        coins[c] -= debt;
        coins[at[n]] += debt;
        at[n] = c;
        return debt;
    }

    @Override
    public int sell(int n, int p) {
        number(n);
        person(p);
        lawful(owner[n] != p && sales < 60);
        sales++;
        int before = owner[n];
        owner[n] = p;
        return before;
    }

    @Override
    public int bond(int n, int more) {
        number(n);
        argument(in(more, 1, 5000));
        lawful(bond[n] + more <= 5000);
        return bond[n] += more;
    }

    @Override
    public int pay(int n, int more) {
        number(n);
        argument(in(more, 1, debt(n)));
        return settle(n, more);
    }

    private int settle(int n, int more) {
        paid[n] += more;
        coins[at[n]] += more;
        if (debt(n) == 0) {
            barred[n] = false;
        }
        return debt(n);
    }

    @Override
    public int judge(int n) {
        number(n);
        lawful(debt(n) > 0);
        int taken = Math.min(bond[n], debt(n));
        bond[n] -= taken;
        int left = settle(n, taken);
        if (left > 0) {
            barred[n] = true;
        }
        return left;
    }

    @Override
    public int call(int n, int other) {
        number(n);
        number(other);
        argument(n != other);
        lawful(callOf(n) < 0 && callOf(other) < 0 && !barred[n] && talks.size() < 60);
        List<Integer> way = new ArrayList<>();
        if (!find(n, other, way)) {
            lost++;
            if (way.size() > 1) {
                payLoss(way.get(way.size() - 1), way.get(0));
            }
            return -1;
        }
        Talk t = new Talk();
        t.caller = n;
        t.other = other;
        t.begin = now;
        t.way = way;
        talks.add(t);
        return talks.size() - 1;
    }

    private boolean find(int n, int other, List<Integer> way) {
        int here = at[n];
        way.add(here);
        while (here != at[other]) {
            int next = believed(here, other);
            if (way.contains(next) || free(here, next) < 1) {
                return false;
            }
            way.add(next);
            here = next;
        }
        return true;
    }

    @Override
    public int hangUp(int call) {
        Talk t = talk(call);
        lawful(t.state == 0);
        t.state = 1;
        t.end = now;
        return t.end - t.begin;
    }

    @Override
    public int pass(int seconds) {
        argument(in(seconds, 1, 2000));
        lawful(now + seconds <= 20000);
        int sum = 0;
        for (int i = 0; i < seconds; i++) {
            for (int n = 0; n < 12; n++) {
                places.get(n).add(at[n]);
            }
            for (Talk t : talks) {
                if (t.state == 0) {
                    int c = at[t.caller];
                    int coin = price[c][dear(now) ? 0 : 1];
                    t.charged += coin;
                    owed[t.caller] += coin;
                    earned[c] += coin;
                    spent[owner[t.caller]] += coin;
                    sum += coin;
                }
            }
            now++;
        }
        return sum;
    }

    @Override
    public int second() {
        return now;
    }

    @Override
    public boolean isDear() {
        return dear(now);
    }

    @Override
    public int carrierOf(int n) {
        number(n);
        return at[n];
    }

    @Override
    public int carrierThen(int n, int second) {
        number(n);
        argument(in(second, 0, now));
        return second == now ? at[n] : places.get(n).get(second);
    }

    @Override
    public int ownerOf(int n) {
        number(n);
        return owner[n];
    }

    @Override
    public int believed(int c, int n) {
        carrier(c);
        number(n);
        int place = n % 5;
        for (Port p : ports) {
            if (p.number() == n && p.known()[c] <= now) {
                place = p.carrier();
            }
        }
        return place;
    }

    @Override
    public int debt(int n) {
        number(n);
        return owed[n] - paid[n];
    }

    @Override
    public int debtAnew(int n) {
        return debt(n);
    }

    @Override
    public int bondOf(int n) {
        number(n);
        return bond[n];
    }

    @Override
    public boolean isBarred(int n) {
        number(n);
        return barred[n];
    }

    @Override
    public int callOf(int n) {
        number(n);
        for (int k = 0; k < talks.size(); k++) {
            Talk t = talks.get(k);
            if (t.state == 0 && (t.caller == n || t.other == n)) {
                return k;
            }
        }
        return -1;
    }

    @Override
    public int free(int c, int other) {
        carrier(c);
        carrier(other);
        if (c == other) {
            return 0;
        }
        int left = lines[c][other];
        for (Talk t : talks) {
            left -= t.takes(c, other) ? 1 : 0;
        }
        return left;
    }

    @Override
    public int route(int n, int other) {
        number(n);
        number(other);
        argument(n != other);
        List<Integer> way = new ArrayList<>();
        return find(n, other, way) ? way.size() - 1 : -1;
    }

    @Override
    public int calls() {
        return talks.size();
    }

    @Override
    public int lost() {
        return lost;
    }

    @Override
    public int state(int call) {
        return talk(call).state;
    }

    @Override
    public int trunks(int call) {
        return talk(call).way.size() - 1;
    }

    @Override
    public int carrierAt(int call, int place) {
        Talk t = talk(call);
        index(in(place, 0, t.way.size() - 1));
        return t.way.get(place);
    }

    @Override
    public int seconds(int call) {
        Talk t = talk(call);
        return (t.state == 0 ? now : t.end) - t.begin;
    }

    @Override
    public int charged(int call) {
        return talk(call).charged;
    }

    @Override
    public int chargedAnew(int call) {
        return charged(call);
    }

    @Override
    public int coins(int c) {
        carrier(c);
        return coins[c];
    }

    @Override
    public int earned(int c) {
        carrier(c);
        return earned[c];
    }

    @Override
    public int earnedAnew(int c) {
        return earned(c);
    }

    @Override
    public int spent(int p) {
        person(p);
        return spent[p];
    }

    @Override
    public int spentAnew(int p) {
        return spent(p);
    }

    @Override
    public int losses(int c) {
        carrier(c);
        return losses[c];
    }
}
