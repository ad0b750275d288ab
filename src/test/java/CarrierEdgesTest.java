/** The Terms on carriers, prices, delays and trunks at their edges, and promises 2 to 4, 18, 24. */
final class CarrierEdgesTest extends Edges {
    private CarrierEdgesTest() {
        super("CarrierEdgesTest");
    }

    public static void main(String[] args) {
        CarrierEdgesTest test = new CarrierEdgesTest();
        test.go();
        test.end();
    }

    private void go() {
        atFirst();
        carriersAre0To4();
        pricesAre0To9();
        pricesAreCharged();
        prices60Times();
        refusedPricesDoNotCount();
        delaysAre0To5000();
        newsComesAfterTheDelay();
        newsUpToTheLastSecond();
        bothKnowAtOnce();
        delayAsItTellsThen();
        latestPortThatIsKnown();
        linesAre0To5();
        linesThatCallsTake();
        linesLeft();
        onlyThoseThatTakeOne();
        lineByLine();
        freeLines();
    }

    /** "at first 2 and 1", "2 at first", "at first 100", "The coins of carriers are 0 at first" */
    private void atFirst() {
        for (int carrier = 0; carrier < 5; carrier++) {
            int c = carrier;
            answers("dear price of " + c, 2, NEW, x -> x.setPrices(c, 0, 0));
            answers("cheap price of " + c, 1, x -> x.call(c, c + 5), x -> x.pass(1));
            answers("delay of " + c, 100, NEW, x -> x.setDelay(c, 0));
            answers("books of " + c, 0, NEW, x -> x.coins(c) + x.losses(c) + x.earned(c));
            for (int other = 0; other < 5; other++) {
                int o = other;
                answers("free " + c + ", " + o, c == o ? 0 : 2, NEW, x -> x.free(c, o));
            }
        }
    }

    /** "Carriers are 0 to 4" */
    private void carriersAre0To4() {
        for (int bad : outside(5)) {
            refusesAlways("setPrices of " + bad, INDEX, x -> x.setPrices(bad, 3, 3));
            refusesAlways("setDelay of " + bad, INDEX, x -> x.setDelay(bad, 3));
            refusesAlways("setTrunk of " + bad, INDEX, x -> x.setTrunk(bad, 0, 0));
            refusesAlways("setTrunk to " + bad, INDEX, x -> x.setTrunk(4, bad, 0));
            refusesAlways("setTrunk of and to " + bad, INDEX, x -> x.setTrunk(bad, bad, 0));
        }
        for (int good : new int[] {0, 4}) {
            answers("setPrices of " + good, 2, NEW, x -> x.setPrices(good, 3, 3));
            answers("setDelay of " + good, 100, NEW, x -> x.setDelay(good, 3));
            answers("setTrunk of " + good, 3, NEW, x -> x.setTrunk(good, 2, 3) + x.free(2, good));
            answers("setTrunk to " + good, 3, NEW, x -> x.setTrunk(2, good, 3) + x.free(good, 2));
        }
    }

    /** "dear: 0 to 9", "cheap: 0 to 9" */
    private void pricesAre0To9() {
        for (int price : outside(10)) {
            refusesAlways("dear " + price, ARGUMENT, x -> x.setPrices(0, price, 4));
            refusesAlways("cheap " + price, ARGUMENT, x -> x.setPrices(4, 4, price));
            refusesAlways("both " + price, ARGUMENT, x -> x.setPrices(2, price, price));
        }
        for (int price : new int[] {0, 1, 8, 9}) {
            Story dear = x -> x.setPrices(0, price, 4);
            Story cheap = x -> x.setPrices(0, 4, price);
            answers("dear " + price, 2, NEW, x -> x.setPrices(0, price, 4));
            answers("dear " + price + " then", price, dear, x -> x.setPrices(0, 0, 0));
            answers("cheap " + price, 2, NEW, x -> x.setPrices(0, 4, price));
            answers("dear then", 4, cheap, x -> x.setPrices(0, 0, 0));
        }
    }

    private void pricesAreCharged() {
        for (int price = 0; price <= 9; price++) {
            int p = price;
            Story cheap = x -> {
                x.setPrices(3, 9 - p, p);
                x.call(3, 8);
            };
            Story dear = both(at(480), x -> {
                x.setPrices(3, p, 9 - p);
                x.call(3, 8);
            });
            answers("a cheap second at " + p, p, cheap, x -> x.pass(1));
            answers("a dear second at " + p, p, dear, x -> x.pass(1));
            answers("2000 seconds at " + p, 1200 * p + 800 * (9 - p), cheap, x -> x.pass(2000));
            answers("and anew", 1200 * p + 800 * (9 - p), cheap, x -> {
                x.pass(2000);
                return x.chargedAnew(0);
            });
        }
        Story most = x -> {
            for (int c = 0; c < 5; c++) {
                x.setPrices(c, 9, 9);
                x.call(c, c + 5);
            }
            x.call(10, 11);
        };
        answers("all that can be charged", 6 * 9 * 20000, most, x -> passTo(x, 20000));
        Story end = both(most, at(20000));
        answers("what one number can owe", 9 * 20000, end, x -> x.debt(10));
        answers("what two numbers of a carrier can owe", 2 * 9 * 20000, end, x -> x.earned(0));
        booksAgree("all that can be charged", end);
    }

    private static Story prices(int times) {
        return x -> {
            for (int i = 0; i < times; i++) {
                x.setPrices(i % 5, 5, i % 10);
            }
        };
    }

    /** "if prices were set 60 times, by all carriers together" */
    private void prices60Times() {
        answers("the 59th time", 5, prices(58), x -> x.setPrices(3, 0, 0));
        Story full = both(prices(59), x -> x.setPrices(4, 6, 7));
        answers("the 60th time", 5, prices(59), x -> x.setPrices(4, 6, 7));
        answers("the 60th time counts", 7, both(full, x -> x.call(4, 9)), x -> x.pass(1));
        for (int carrier = 0; carrier < 5; carrier++) {
            int c = carrier;
            refuses("the 61st time, by " + c, STATE, full, x -> x.setPrices(c, 0, 0));
            refuses("to what they were, by " + c, STATE, full, x -> x.setPrices(c, 6, 7));
            refuses("when full, by " + c, STATE, FULL, x -> x.setPrices(c, 9, 9));
        }
        Story byOne = x -> {
            for (int i = 0; i < 60; i++) {
                x.setPrices(2, 2, 1);
            }
        };
        refuses("60 times by one", STATE, byOne, x -> x.setPrices(2, 0, 0));
        refuses("60 times by another one", STATE, byOne, x -> x.setPrices(0, 0, 0));
    }

    private void refusedPricesDoNotCount() {
        Story refused = both(prices(59), x -> {
            for (int i = 0; i < 5; i++) {
                Check.outcome(() -> x.setPrices(5, 1, 1));
                Check.outcome(() -> x.setPrices(0, 10, 1));
                Check.outcome(() -> x.setPrices(0, 1, -1));
            }
        });
        answers("the 60th time after refused ones", 5, refused, x -> x.setPrices(0, 9, 9));
        refuses("the 61st time after refused ones", STATE,
            both(refused, x -> x.setPrices(0, 9, 9)), x -> x.setPrices(0, 8, 8));
    }

    /** "seconds: 0 to 5000" */
    private void delaysAre0To5000() {
        for (int seconds : outside(5001)) {
            refusesAlways("setDelay " + seconds, ARGUMENT, x -> x.setDelay(2, seconds));
        }
        for (int seconds : new int[] {0, 1, 4999, 5000}) {
            answers("setDelay " + seconds, 100, NEW, x -> x.setDelay(2, seconds));
            answers("before", seconds, x -> x.setDelay(2, seconds), x -> x.setDelay(2, 3));
            answers("of another", 100, x -> x.setDelay(2, seconds), x -> x.setDelay(1, 3));
        }
    }

    /** "each other carrier so many seconds later as its delay tells then" */
    private void newsComesAfterTheDelay() {
        for (int delay : new int[] {0, 1, 2, 99, 100, 101, 4999, 5000}) {
            for (int second : new int[] {0, 1, 777}) {
                String what = "delay " + delay + " of a port at " + second;
                Story ported = both(at(second), x -> {
                    x.setDelay(2, delay);
                    x.port(0, 1);
                });
                Story before = both(ported, x -> passTo(x, second + delay - 1));
                Story then = both(ported, x -> passTo(x, second + delay));
                Story after = both(ported, x -> passTo(x, second + delay + 1));
                if (delay > 0) {
                    answers(what + ", at once", 0, ported, x -> x.believed(2, 0));
                    answers(what + ", a second before", 0, before, x -> x.believed(2, 0));
                    answers(what + ", a call a second before", 2, before, x -> x.route(2, 0));
                }
                answers(what + ", then", 1, then, x -> x.believed(2, 0));
                answers(what + ", a call then", 1, then, x -> x.route(2, 0));
                answers(what + ", a second after", 1, after, x -> x.believed(2, 0));
            }
        }
        for (int carrier = 2; carrier < 5; carrier++) {
            int c = carrier;
            Story ported = x -> x.port(0, 1);
            answers("99 seconds", 0, both(ported, at(99)), x -> x.believed(c, 0));
            answers("100 seconds", 1, both(ported, at(100)), x -> x.believed(c, 0));
        }
    }

    private void newsUpToTheLastSecond() {
        for (int second : new int[] {14999, 15000, 15001, 20000}) {
            Story ported = both(at(second), x -> {
                x.setDelay(3, 5000);
                x.setDelay(4, 0);
                x.port(2, 0);
            });
            Story at19999 = both(ported, x -> passTo(x, Math.max(second, 19999)));
            Story at20000 = both(ported, x -> passTo(x, 20000));
            String what = "ported at " + second + ", ";
            answers(what + "19999", second < 15000 ? 0 : 2, at19999, x -> x.believed(3, 2));
            answers(what + "20000", second <= 15000 ? 0 : 2, at20000, x -> x.believed(3, 2));
            answers(what + "no delay", 0, ported, x -> x.believed(4, 2));
        }
    }

    /** "When a number is carried to another carrier, both know it at once" */
    private void bothKnowAtOnce() {
        Story slow = x -> {
            for (int c = 0; c < 5; c++) {
                x.setDelay(c, 5000);
            }
        };
        for (int from = 0; from < 5; from++) {
            for (int to = 0; to < 5; to++) {
                int f = from;
                int t = to;
                if (f == t) {
                    continue;
                }
                Story ported = both(slow, x -> x.port(f, t));
                for (int carrier = 0; carrier < 5; carrier++) {
                    int c = carrier;
                    String what = "port " + f + " to " + t + ", known to " + c;
                    answers(what, c == f || c == t ? t : f, ported, x -> x.believed(c, f));
                    answers("another number", f, ported, x -> x.believed(c, f + 5));
                }
            }
        }
    }

    /** "as its delay tells then", "Sets the delay of a carrier, for ports to come." */
    private void delayAsItTellsThen() {
        Story shorter = x -> {
            x.port(0, 1);
            x.setDelay(2, 0);
        };
        Story longer = x -> {
            x.port(0, 1);
            x.setDelay(2, 5000);
        };
        for (Story story : new Story[] {shorter, longer}) {
            answers("at once", 0, story, x -> x.believed(2, 0));
            answers("after 99", 0, both(story, at(99)), x -> x.believed(2, 0));
            answers("after 100", 1, both(story, at(100)), x -> x.believed(2, 0));
        }
    }

    /** "the latest port of it that is known to it", "where it was at first if none is" */
    private void latestPortThatIsKnown() {
        Story late = x -> {
            x.setDelay(4, 50);
            x.port(0, 1);
            x.pass(10);
            x.setDelay(4, 20);
            x.port(0, 2);
            x.setDelay(4, 40);
            x.port(0, 3);
        };
        int[] seconds = {29, 30, 49, 50, 51};
        int[] want = {0, 2, 2, 3, 3};
        for (int i = 0; i < seconds.length; i++) {
            Story then = both(late, at(seconds[i]));
            answers("known to 4 at " + seconds[i], want[i], then, x -> x.believed(4, 0));
        }
        answers("known to 0 by its own port alone", 1, late, x -> x.believed(0, 0));
        answers("known to 0 by the news", 3, both(late, at(110)), x -> x.believed(0, 0));
        answers("not before", 1, both(late, at(109)), x -> x.believed(0, 0));
        Story home = x -> {
            x.port(0, 1);
            x.port(0, 0);
        };
        answers("back home, known to 1", 0, home, x -> x.believed(1, 0));
        answers("back home, known to none else", 0, home, x -> x.believed(2, 0));
        answers("back home, after the news", 0, both(home, at(100)), x -> x.believed(2, 0));
    }

    /** "lines: 0 to 5", "another one" */
    private void linesAre0To5() {
        for (int lines : outside(6)) {
            refusesAlways("setTrunk " + lines, ARGUMENT, x -> x.setTrunk(0, 1, lines));
            refusesAlways("setTrunk back " + lines, ARGUMENT, x -> x.setTrunk(4, 2, lines));
        }
        for (int c = 0; c < 5; c++) {
            int same = c;
            String what = "setTrunk of " + c + " and itself";
            refusesAlways(what, ARGUMENT, x -> x.setTrunk(same, same, 2));
        }
        for (int lines = 0; lines <= 5; lines++) {
            int l = lines;
            for (int c = 0; c < 5; c++) {
                for (int o = 0; o < 5; o++) {
                    linesOf(c, o, l);
                }
            }
        }
    }

    private void linesOf(int c, int o, int lines) {
        if (c == o) {
            return;
        }
        Story set = x -> x.setTrunk(c, o, lines);
        String what = "lines " + lines + " of " + c + ", " + o;
        answers(what, 0, NEW, x -> x.setTrunk(c, o, lines));
        answers(what + " are free", lines, set, x -> x.free(c, o));
        answers(what + " are free from there", lines, set, x -> x.free(o, c));
        answers(what + ", all lines", 2 * (18 + lines), set, CarrierEdgesTest::allFree);
    }

    private static long allFree(Exchange x) {
        long sum = 0;
        for (int c = 0; c < 5; c++) {
            for (int o = 0; o < 5; o++) {
                sum += x.free(c, o);
            }
        }
        return sum;
    }

    /** Six numbers at carrier 0 and six at 1, all of it known, and a trunk of 5 lines. */
    private static void sixPairs(Exchange x) {
        for (int c = 0; c < 5; c++) {
            x.setDelay(c, 0);
        }
        for (int n = 2; n < 5; n++) {
            x.port(n, 0);
            x.port(n + 5, 1);
        }
        x.setTrunk(0, 1, 5);
    }

    private static int pair(Exchange x, int i) {
        int[] at0 = {0, 5, 10, 2, 3, 4};
        int[] at1 = {1, 6, 11, 7, 8, 9};
        return i % 2 == 0 ? x.call(at0[i], at1[i]) : x.call(at1[i], at0[i]);
    }

    private static Story taken(int calls) {
        return x -> {
            sixPairs(x);
            for (int i = 0; i < calls; i++) {
                pair(x, i);
            }
        };
    }

    /** "It cannot be sent on if no line of the trunk is free" */
    private void linesThatCallsTake() {
        for (int lines = 0; lines <= 5; lines++) {
            for (int calls = 0; calls <= lines; calls++) {
                int l = lines;
                int n = calls;
                Story before = both(taken(n), x -> x.setTrunk(1, 0, l));
                String what = n + " calls on " + l + " lines";
                answers(what + ", free", l - n, before, x -> x.free(0, 1));
                answers(what + ", the way", n < l ? 1 : -1, before, x -> x.route(4, 9));
                answers(what + ", the way back", n < l ? 1 : -1, before, x -> x.route(9, 4));
                answers(what + ", one more", n < l ? n : -1, before, x -> pair(x, n));
                Story after = both(before, x -> pair(x, n));
                answers(what + ", one more, lost", n < l ? 0 : 1, after, x -> x.lost());
                int left = Math.max(l - n - 1, 0);
                answers(what + ", one more, free", left, after, x -> x.free(0, 1));
            }
        }
        Story sixth = both(taken(5), x -> pair(x, 5));
        answers("none pays at the first carrier", 0, sixth, x -> x.losses(0) + x.losses(1));
    }

    /** "the call with the highest number of those that take one ends, lost, as long as ..." */
    private void linesLeft() {
        for (int lines = 0; lines <= 5; lines++) {
            for (int calls = 0; calls <= 5; calls++) {
                linesLeft(calls, lines);
            }
        }
        for (int s = 0; s < ALL.length; s++) {
            answers("no lines when " + NAMES[s], 0, ALL[s], x -> x.setTrunk(0, 4, 0));
        }
    }

    private void linesLeft(int calls, int lines) {
        int lost = Math.max(calls - lines, 0);
        Story before = taken(calls);
        Story after = both(before, x -> x.setTrunk(0, 1, lines));
        String what = calls + " calls, " + lines + " lines";
        answers(what, lost, before, x -> x.setTrunk(0, 1, lines));
        answers(what + ", from there", lost, before, x -> x.setTrunk(1, 0, lines));
        answers(what + ", lost", lost, after, x -> x.lost());
        answers(what + ", came through", calls, after, x -> x.calls());
        answers(what + ", free", Math.max(lines - calls, 0), after, x -> x.free(1, 0));
        answers(what + ", once more", 0, after, x -> x.setTrunk(0, 1, lines));
        int paidBy0 = 0;
        int paidBy1 = 0;
        for (int i = 0; i < calls; i++) {
            int call = i;
            answers(what + ", call " + i, i < lines ? 0 : 2, after, x -> x.state(call));
            paidBy1 += i >= lines && i % 2 == 0 ? 5 : 0;
            paidBy0 += i >= lines && i % 2 == 1 ? 5 : 0;
        }
        answers(what + ", paid by 0", paidBy0, after, x -> x.losses(0));
        answers(what + ", paid by 1", paidBy1, after, x -> x.losses(1));
        answers(what + ", coins of 0", paidBy1 - paidBy0, after, x -> x.coins(0));
        answers(what + ", coins of 1", paidBy0 - paidBy1, after, x -> x.coins(1));
    }

    /** "of those that take one": not an ended one, nor one that shares a carrier alone. */
    private void onlyThoseThatTakeOne() {
        Story before = x -> {
            x.call(0, 1);
            x.call(5, 6);
            x.hangUp(1);
            x.call(10, 2);
            x.call(6, 8);
            x.call(7, 5);
            x.call(3, 11);
        };
        int[] states = {2, 1, 0, 0, 0, 0};
        for (int turn = 0; turn < 2; turn++) {
            int from = turn;
            Story after = both(before, x -> x.setTrunk(from, 1 - from, 0));
            answers("one takes a line", 0, before, x -> x.setTrunk(from, 1 - from, 1));
            answers("one too many", 1, before, x -> x.setTrunk(from, 1 - from, 0));
            answers("none free", 0, after, x -> x.free(0, 1));
            answers("lost", 1, after, x -> x.lost());
            answers("paid once", 5, after, x -> x.losses(1));
            answers("paid to the first", 5, after, x -> x.coins(0));
            for (int i = 0; i < states.length; i++) {
                int call = i;
                answers("state of call " + i, states[i], after, x -> x.state(call));
            }
        }
    }

    private void lineByLine() {
        Story before = taken(5);
        for (int lines = 4; lines >= 0; lines--) {
            int left = lines;
            String what = "down to " + lines;
            answers(what, 1, before, x -> x.setTrunk(0, 1, left));
            before = both(before, x -> x.setTrunk(0, 1, left));
            answers(what + ", the highest", 2, before, x -> x.state(left));
            answers(what + ", lost", 5 - lines, before, x -> x.lost());
            answers(what + ", paid", 5 * (5 - lines), before, x -> x.losses(0) + x.losses(1));
            answers(what + ", none free", 0, before, x -> x.free(0, 1));
            if (lines > 0) {
                answers(what + ", the next", 0, before, x -> x.state(left - 1));
            }
        }
        answers("up again, free", 5, both(before, x -> x.setTrunk(0, 1, 5)), x -> x.free(0, 1));
    }

    /** "0 for one and the same carrier" */
    private void freeLines() {
        for (int s = 0; s < ALL.length; s++) {
            for (int c = 0; c < 5; c++) {
                int same = c;
                answers("free of one and the same when " + NAMES[s], 0, ALL[s],
                    x -> x.free(same, same));
            }
        }
        answers("none free", 0, x -> x.setTrunk(0, 1, 0), x -> x.free(0, 1));
        answers("one free", 1, x -> x.setTrunk(0, 1, 1), x -> x.free(0, 1));
        answers("five free", 5, taken(0), x -> x.free(0, 1));
        answers("one of five taken", 4, taken(1), x -> x.free(0, 1));
        answers("all but one taken", 1, taken(4), x -> x.free(0, 1));
        answers("all taken", 0, taken(5), x -> x.free(0, 1));
        answers("one given back", 1, both(taken(5), x -> x.hangUp(2)), x -> x.free(0, 1));
        answers("one lost as it was made takes none", 4, both(taken(1), x -> {
            x.setTrunk(0, 1, 1);
            pair(x, 1);
            x.setTrunk(0, 1, 5);
        }), x -> x.free(0, 1));
    }
}
