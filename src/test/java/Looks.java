import java.util.ArrayList;
import java.util.List;
import java.util.function.Supplier;

/**
 * Every answer that an object gives after a story, at once and after changes that bring to light
 * what no answer tells by itself: delays, prices, news on the way, how often more can be done.
 * As these are more calls than one object is good for, the story is told to new objects again.
 */
final class Looks {
    private static final int AT_A_TIME = 180;
    private static final int MOST_CHANGES = 60;

    private final Supplier<Exchange> maker;
    private final Story story;
    private final List<String> lines = new ArrayList<>();
    private Exchange x;
    private int asked = AT_A_TIME;

    private Looks(Supplier<Exchange> maker, Story story) {
        this.maker = maker;
        this.story = story;
    }

    static List<String> of(Supplier<Exchange> maker, Story story) {
        Looks looks = new Looks(maker, story);
        looks.atOnce();
        looks.later();
        return looks.lines;
    }

    /** The first line that is not the same in both; empty if there is none. */
    static String difference(List<String> want, List<String> got) {
        for (int i = 0; i < Math.max(want.size(), got.size()); i++) {
            String due = i < want.size() ? want.get(i) : "nothing";
            String is = i < got.size() ? got.get(i) : "nothing";
            if (!due.equals(is)) {
                return is + ", due is " + due;
            }
        }
        return "";
    }

    private void tellAnew() {
        x = maker.get();
        story.tell(x);
        asked = 0;
    }

    private void look(String name, int a, int b) {
        if (asked >= AT_A_TIME) {
            tellAnew();
        }
        change(name, a, b, 0);
    }

    private void change(String name, int a, int b, int c) {
        asked++;
        String answer = Check.outcome(() -> x.ask(name, a, b, c));
        lines.add(name + "(" + a + ", " + b + ", " + c + ") answered " + answer);
    }

    private void atOnce() {
        for (String name : new String[] {"second", "isDear", "calls", "lost"}) {
            look(name, 0, 0);
        }
        String[] ofNumbers = {
            "carrierOf", "ownerOf", "debt", "debtAnew", "bondOf", "isBarred", "callOf"};
        for (int n = 0; n < 12; n++) {
            lookAll(ofNumbers, n);
            places(n);
            for (int other = 0; other < 12; other++) {
                look("route", n, other);
            }
        }
        for (int c = 0; c < 5; c++) {
            lookAll(new String[] {"coins", "earned", "earnedAnew", "losses"}, c);
            beliefs(c);
            for (int other = 0; other < 5; other++) {
                look("free", c, other);
            }
        }
        for (int p = 0; p < 6; p++) {
            lookAll(new String[] {"spent", "spentAnew"}, p);
        }
        talks();
    }

    private void lookAll(String[] names, int a) {
        for (String name : names) {
            look(name, a, 0);
        }
    }

    private void places(int number) {
        tellIfFirst();
        int now = x.second();
        for (int second : new int[] {0, now / 2, now - 1, now, now + 1}) {
            look("carrierThen", number, second);
        }
    }

    private void tellIfFirst() {
        if (x == null) {
            tellAnew();
        }
    }

    private void beliefs(int carrier) {
        for (int n = 0; n < 12; n++) {
            look("believed", carrier, n);
        }
    }

    private void talks() {
        int calls = x.calls();
        String[] ofCalls = {"state", "trunks", "seconds", "charged", "chargedAnew"};
        for (int call = 0; call <= calls; call++) {
            lookAll(ofCalls, call);
            for (int place = 0; place < 6; place++) {
                look("carrierAt", call, place);
            }
        }
    }

    private void later() {
        delaysAndTrunks();
        prices();
        charges();
        news();
        howManyMore();
    }

    private void delaysAndTrunks() {
        tellAnew();
        for (int c = 0; c < 5; c++) {
            change("setDelay", c, 0, 0);
            for (int other = 0; other < 5; other++) {
                change("setTrunk", c, other, 0);
            }
            change("losses", c, 0, 0);
        }
    }

    private void prices() {
        tellAnew();
        for (int i = 0; i <= MOST_CHANGES; i++) {
            change("setPrices", i % 5, i % 10, 9);
        }
    }

    private void charges() {
        tellAnew();
        change("call", 5, 10, 0);
        for (int n = 1; n < 5; n++) {
            change("call", n, n + 5, 0);
        }
        for (int seconds : new int[] {1, 719, 720}) {
            change("pass", seconds, 0, 0);
            for (int n = 0; n < 12; n++) {
                change("debt", n, 0, 0);
                change("debtAnew", n, 0, 0);
            }
        }
    }

    private void news() {
        for (int seconds : new int[] {1, 50, 100, 1999}) {
            tellAnew();
            change("pass", seconds, 0, 0);
            for (int c = 0; c < 5; c++) {
                beliefs(c);
            }
        }
    }

    private void howManyMore() {
        tellAnew();
        for (int i = 0; i <= MOST_CHANGES; i++) {
            change("port", 5, (x.carrierOf(5) + 1) % 5, 0);
        }
        tellAnew();
        for (int i = 0; i <= MOST_CHANGES; i++) {
            change("sell", 5, (x.ownerOf(5) + 1) % 6, 0);
        }
        tellAnew();
        for (int i = 0; i <= MOST_CHANGES; i++) {
            change("call", 5, 10, 0);
            change("hangUp", x.callOf(5), 0, 0);
        }
        tellAnew();
        for (int n = 0; n < 12; n++) {
            change("bond", n, 5000 - x.bondOf(n), 0);
            change("judge", n, 0, 0);
        }
    }
}
