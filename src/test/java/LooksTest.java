import java.util.List;

/** Looks must see every change, as the tests of refused calls trust it to. */
final class LooksTest {
    private static final Check CHECK = new Check("LooksTest");

    private LooksTest() {
    }

    public static void main(String[] args) {
        for (int s = 0; s < Stories.ALL.length; s++) {
            List<String> want = Looks.of(Model::new, Stories.ALL[s]);
            List<String> got = Looks.of(Counted::new, Stories.ALL[s]);
            String what = "looks when " + Stories.NAMES[s];
            CHECK.same(what, "", Looks.difference(want, got));
            CHECK.same(what + " are many", 1, got.size() > 900 ? 1 : 0);
        }
        for (Story before : new Story[] {Stories.NEW, Stories.BUSY}) {
            sees("a dear price", before, x -> x.setPrices(0, 8, 3));
            sees("the prices as they were", before, x -> x.setPrices(4, 2, 1));
            sees("a delay", before, x -> x.setDelay(4, 101));
            sees("lines", before, x -> x.setTrunk(0, 3, 3));
            sees("lost calls", before, x -> x.setTrunk(0, 3, 0));
            sees("a port", before, x -> x.port(5, 1));
            sees("a port there and back", before, x -> x.port(x.port(5, 1) + 5, 0));
            sees("a sale", before, x -> x.sell(5, 1));
            sees("a sale there and back", before, x -> x.sell(x.sell(5, 1), 5));
            sees("a bond", before, x -> x.bond(5, 1));
            sees("a call", before, x -> x.call(5, 10));
            sees("a call of no second", before, x -> x.hangUp(x.call(5, 10)));
            sees("a second", before, x -> x.pass(1));
        }
        Story cheap = Stories.both(Stories.at(9), x -> x.call(5, 10));
        sees("a cheap price", cheap, x -> x.setPrices(0, 2, 0));
        sees("a coin that is paid", Stories.BUSY, x -> x.pay(0, 1));
        sees("a bar", Stories.BUSY, x -> x.judge(9));
        sees("a call that is lost", Stories.BUSY, x -> x.call(4, 10));
        sees("an end", Stories.FULL, x -> x.hangUp(59));
        CHECK.end();
    }

    private static void sees(String what, Story before, Ask change) {
        List<String> without = Looks.of(Counted::new, before);
        List<String> with = Looks.of(Counted::new, x -> {
            before.tell(x);
            change.of(x);
        });
        CHECK.same("sees " + what, 1, Looks.difference(without, with).isEmpty() ? 0 : 1);
    }
}
