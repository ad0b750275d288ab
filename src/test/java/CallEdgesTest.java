import java.util.Random;

/** The Terms on calls, their ways and losses at their edges, and promises 10, 11 and 25 to 31. */
final class CallEdgesTest extends Edges {
    private CallEdgesTest() {
        super("CallEdgesTest");
    }

    public static void main(String[] args) {
        CallEdgesTest test = new CallEdgesTest();
        test.go();
        test.end();
    }

    private void go() {
        numbersAre0To11();
        bothAreTheSame();
        inOneCallAtMost();
        calls60();
        lostOnesAside();
        lostByATrunkCount();
        callsThatWereMade();
        endedOnce();
        waysOf0To4Trunks();
        waysBeginAtTheCaller();
        waysAndTheirLines();
        lostOnTheWay();
        lostByEachTrunkOfItsWay();
        placesOnTheWay();
        routeChangesNothing();
        eachWayEnds();
        lostAreCounted();
    }

    private void numbersAre0To11() {
        for (int bad : outside(12)) {
            refusesAlways("call of " + bad, INDEX, x -> x.call(bad, 5));
            refusesAlways("call to " + bad, INDEX, x -> x.call(5, bad));
            refusesAlways("call of and to " + bad, INDEX, x -> x.call(bad, bad));
            refusesAlways("route of " + bad, INDEX, x -> x.route(bad, 5));
            refusesAlways("route to " + bad, INDEX, x -> x.route(5, bad));
            refusesAlways("route of and to " + bad, INDEX, x -> x.route(bad, bad));
        }
        answers("call of the first to the last", 0, NEW, x -> x.call(0, 11));
        answers("call of the last to the first", 0, NEW, x -> x.call(11, 0));
        answers("route of the first to the last", 1, NEW, x -> x.route(0, 11));
        answers("route of the last to the first", 1, NEW, x -> x.route(11, 0));
    }

    /** "if both are the same" */
    private void bothAreTheSame() {
        for (int number = 0; number < 12; number++) {
            int n = number;
            refusesAlways("call of itself " + n, ARGUMENT, x -> x.call(n, n));
            refusesAlways("route to itself " + n, ARGUMENT, x -> x.route(n, n));
        }
    }

    /** "each of which is in one call at most", "if either is in a call" */
    private void inOneCallAtMost() {
        Story talks = x -> x.call(0, 1);
        int[][] pairs = {{0, 2}, {2, 0}, {1, 2}, {2, 1}, {0, 1}, {1, 0}};
        for (int[] p : pairs) {
            refuses("call of " + p[0] + " to " + p[1], STATE, talks, x -> x.call(p[0], p[1]));
            answers("after the end", 1, both(talks, x -> x.hangUp(0)), x -> x.call(p[0], p[1]));
            Story lost = both(talks, x -> {
                x.setTrunk(0, 1, 0);
                x.setTrunk(0, 1, 1);
            });
            answers("after the loss", 1, lost, x -> x.call(p[0], p[1]));
        }
        answers("two others", 1, talks, x -> x.call(2, 3));
        Story all = x -> {
            for (int n = 0; n < 12; n += 2) {
                x.call(n, n + 1);
            }
        };
        answers("six calls at a time", 6, all, x -> x.calls());
        for (int number = 0; number < 12; number++) {
            int n = number;
            answers("all are in calls", n / 2, all, x -> x.callOf(n));
            refuses("all are in calls", STATE, all, x -> x.call(n, (n + 1) % 12));
        }
        Story lostAtOnce = x -> {
            x.setTrunk(0, 1, 0);
            x.call(0, 1);
        };
        answers("in none by a lost call", -2, lostAtOnce, x -> x.callOf(0) + x.callOf(1));
        answers("to another one after a lost call", 0, lostAtOnce, x -> x.call(0, 2));
    }

    private static Story calls(int count) {
        return x -> {
            for (int i = 0; i < count; i++) {
                x.hangUp(x.call(10, 5));
            }
        };
    }

    /** "or 60 calls were made" */
    private void calls60() {
        answers("the first call", 0, NEW, x -> x.call(10, 5));
        answers("the 59th call", 58, calls(58), x -> x.call(10, 5));
        answers("the 60th call", 59, calls(59), x -> x.call(10, 5));
        Story full = both(calls(59), x -> x.call(10, 5));
        answers("the 60th call goes on", 0, full, x -> x.state(59));
        answers("the 60th call counts", 60, full, x -> x.calls());
        answers("the 60th call is charged", 1, full, x -> x.pass(1));
        refuses("the 61st call", STATE, full, x -> x.call(0, 1));
        refuses("the 61st call, all ended", STATE, calls(60), x -> x.call(10, 5));
        answers("its way", 1, full, x -> x.route(0, 1));
        Story closed = both(full, x -> x.setTrunk(0, 1, 0));
        refuses("the 61st call, that would be lost", STATE, closed, x -> x.call(0, 1));
        answers("it is not lost", 0, closed, x -> x.lost());
        for (int n = 0; n < 12; n++) {
            int number = n;
            refuses("a call when full", STATE, FULL, x -> x.call(number, (number + 1) % 12));
        }
        Story refused = both(calls(59), x -> {
            Check.outcome(() -> x.call(12, 0));
            Check.outcome(() -> x.call(0, 0));
            x.call(0, 1);
            Check.outcome(() -> x.call(0, 1));
            x.hangUp(59);
        });
        refuses("the 61st call after refused ones", STATE, refused, x -> x.call(10, 5));
    }

    /** "lost ones aside that never came through" */
    private void lostOnesAside() {
        Story lost = x -> {
            x.setTrunk(0, 1, 0);
            for (int i = 0; i < 61; i++) {
                x.call(0, 1);
            }
        };
        answers("61 lost ones", 61, lost, x -> x.lost());
        answers("none came through", 0, lost, x -> x.calls());
        answers("the first call", 0, lost, x -> x.call(10, 5));
        answers("the 60th call", 59, both(lost, calls(59)), x -> x.call(10, 5));
        refuses("the 61st call", STATE, both(lost, calls(60)), x -> x.call(10, 5));
        Story near = both(calls(59), lost);
        answers("lost ones after 59", 59, near, x -> x.call(10, 5));
        answers("lost after 59", -1, near, x -> x.call(0, 1));
    }

    private void lostByATrunkCount() {
        Story lost = x -> {
            for (int i = 0; i < 59; i++) {
                x.call(0, 1);
                x.setTrunk(0, 1, 0);
                x.setTrunk(0, 1, 1);
            }
        };
        answers("59 lost by a trunk", 59, lost, x -> x.lost());
        answers("59 came through", 59, lost, x -> x.calls());
        answers("the 60th call", 59, lost, x -> x.call(0, 1));
        refuses("the 61st call", STATE, both(lost, calls(1)), x -> x.call(0, 1));
        answers("paid for 59", 295, lost, x -> x.losses(1));
    }

    /** "a call that was made" */
    private void callsThatWereMade() {
        int[] counts = {0, 4, 60, 2};
        String[] asks = {
            "hangUp", "state", "trunks", "seconds", "charged", "chargedAnew", "carrierAt"};
        for (int s = 0; s < ALL.length; s++) {
            Story story = ALL[s];
            int count = counts[s];
            answers("calls when " + NAMES[s], count, story, x -> x.calls());
            for (String name : asks) {
                for (int call : outside(count)) {
                    String what = name + " of " + call + " when " + NAMES[s];
                    refuses(what, INDEX, story, x -> x.ask(name, call, 0, 0));
                }
            }
        }
        answers("the first of four", 1, BUSY, x -> x.state(0));
        answers("the last of four", 0, BUSY, x -> x.state(3));
        answers("the first of sixty", 1, FULL, x -> x.state(0));
        answers("the last of sixty", 50, FULL, x -> x.hangUp(59));
        Story lost = x -> {
            x.setTrunk(0, 1, 0);
            x.call(0, 1);
        };
        refuses("a call that never came through", INDEX, lost, x -> x.state(0));
        refuses("a call that never came through", INDEX, lost, x -> x.hangUp(0));
    }

    /** "if it has ended" */
    private void endedOnce() {
        Story ended = calls(1);
        refuses("hangUp again", STATE, ended, x -> x.hangUp(0));
        refuses("hangUp of an ended one while it is in the next", STATE,
            both(ended, x -> x.call(10, 5)), x -> x.hangUp(0));
        Story lost = x -> {
            x.call(0, 1);
            x.setTrunk(0, 1, 0);
        };
        refuses("hangUp of one lost by a trunk", STATE, lost, x -> x.hangUp(0));
        refuses("hangUp of the first of sixty", STATE, FULL, x -> x.hangUp(0));
        refuses("hangUp of the last that ended", STATE, FULL, x -> x.hangUp(57));
        refuses("hangUp when busy, ended", STATE, BUSY, x -> x.hangUp(0));
        refuses("hangUp when busy, lost", STATE, BUSY, x -> x.hangUp(2));
        answers("state after the end", 1, ended, x -> x.state(0));
        answers("state after the loss", 2, lost, x -> x.state(0));
        answers("state before", 0, x -> x.call(0, 1), x -> x.state(0));
        answers("a loss of lines does not touch an ended one", 1, both(x -> {
            x.hangUp(x.call(0, 1));
            x.setTrunk(0, 1, 0);
        }, NEW), x -> x.state(0));
        for (int seconds : new int[] {0, 1, 2, 2000, 20000}) {
            Story talk = both(x -> x.call(0, 5), x -> passTo(x, seconds));
            answers("hangUp after " + seconds, seconds, talk, x -> x.hangUp(0));
            answers("seconds after " + seconds, seconds, talk, x -> x.seconds(0));
        }
    }

    private static final Story[] CHAINS = {
        chain(0), chain(), chain(2), chain(2, 3), chain(2, 3, 4)};

    /** "from there it is sent on ... until it comes to the one where that number is" */
    private void waysOf0To4Trunks() {
        int[][] ways = {{0}, {0, 1}, {0, 1, 2}, {0, 1, 2, 3}, {0, 1, 2, 3, 4}};
        for (int trunks = 0; trunks <= 4; trunks++) {
            Story before = CHAINS[trunks];
            Story made = both(before, x -> x.call(0, 1));
            answers("route over " + trunks, trunks, before, x -> x.route(0, 1));
            answers("call over " + trunks, 0, before, x -> x.call(0, 1));
            answers("trunks of " + trunks, trunks, made, x -> x.trunks(0));
            for (int place = 0; place <= trunks; place++) {
                int p = place;
                int want = ways[trunks][p];
                answers("place " + p + " of " + trunks, want, made, x -> x.carrierAt(0, p));
            }
            for (int bad : outside(trunks + 1)) {
                refuses("place " + bad + " of " + trunks, INDEX, made, x -> x.carrierAt(0, bad));
            }
        }
        Story closed = x -> {
            for (int c = 1; c < 5; c++) {
                x.setTrunk(0, c, 0);
            }
        };
        answers("a way of no trunk needs no line", 0, closed, x -> x.call(0, 5));
        answers("a way of no trunk needs no line", 0, closed, x -> x.route(0, 10));
        answers("but a way of one does", -1, closed, x -> x.route(0, 4));
    }

    /** "It begins at the carrier of the caller's number" */
    private void waysBeginAtTheCaller() {
        for (int carrier = 1; carrier < 5; carrier++) {
            int c = carrier;
            Story ported = x -> x.port(0, c);
            Story made = both(ported, x -> x.call(0, 6));
            answers("ported in this second to " + c, c, made, x -> x.carrierAt(0, 0));
            answers("its trunks from " + c, c == 1 ? 0 : 1, made, x -> x.trunks(0));
            Story before = both(x -> x.call(0, 6), ported);
            answers("ported after it was made", 0, before, x -> x.carrierAt(0, 0));
            answers("ported after it was made, its line", 1, before, x -> x.free(0, 1));
        }
    }

    /** "If it comes there it takes a line of each trunk on its way, until it ends" */
    private void waysAndTheirLines() {
        for (int trunks = 0; trunks <= 4; trunks++) {
            Story made = both(CHAINS[trunks], x -> x.call(0, 1));
            linesOfTheWay("goes on", trunks, 1, made);
            linesOfTheWay("ended", trunks, 2, both(made, x -> x.hangUp(0)));
            if (trunks > 0) {
                Story lost = both(made, x -> {
                    x.setTrunk(1, 0, 0);
                    x.setTrunk(1, 0, 2);
                });
                linesOfTheWay("lost by a trunk", trunks, 2, lost);
            }
        }
        Story lostAtTheLast = both(CHAINS[4], x -> {
            x.setTrunk(3, 4, 0);
            x.call(0, 1);
            x.setTrunk(3, 4, 2);
        });
        linesOfTheWay("lost as it was made", 4, 2, lostAtTheLast);
        Story two = both(CHAINS[4], x -> {
            x.call(0, 1);
            x.port(2, 0);
            x.call(2, 6);
        });
        answers("another one takes the other line", 0, two, x -> x.free(0, 1));
        answers("and not the next trunk's", 1, two, x -> x.free(1, 2));
        answers("then none is left", -1, two, x -> x.route(5, 11));
    }

    private void linesOfTheWay(String what, int trunks, int left, Story story) {
        for (int c = 0; c < 5; c++) {
            for (int o = c + 1; o < 5; o++) {
                int carrier = c;
                int other = o;
                int want = o == c + 1 && c < trunks ? left : 2;
                answers(what + ", free " + c + ", " + o, want, story, x -> x.free(carrier, other));
                answers(what + ", free " + o + ", " + c, want, story, x -> x.free(other, carrier));
            }
        }
    }

    /** "the last carrier to which it came pays 5 coins to the first one" */
    private void lostOnTheWay() {
        for (int trunks = 1; trunks <= 4; trunks++) {
            for (int closed = 0; closed < trunks; closed++) {
                int from = closed;
                Story before = both(CHAINS[trunks], x -> x.setTrunk(from, from + 1, 0));
                Story after = both(before, x -> x.call(0, 1));
                String what = "way of " + trunks + " lost at " + closed;
                int paid = from > 0 ? 5 : 0;
                answers(what, -1, before, x -> x.call(0, 1));
                answers(what + ", the way", -1, before, x -> x.route(0, 1));
                answers(what + ", lost", 1, after, x -> x.lost());
                answers(what + ", calls", 0, after, x -> x.calls());
                answers(what + ", coins of the first", paid, after, x -> x.coins(0));
                answers(what + ", losses of the first", 0, after, x -> x.losses(0));
                for (int carrier = 1; carrier < 5; carrier++) {
                    int c = carrier;
                    int byIt = c == from ? paid : 0;
                    answers(what + ", coins of " + c, -byIt, after, x -> x.coins(c));
                    answers(what + ", losses of " + c, byIt, after, x -> x.losses(c));
                }
            }
        }
    }

    /** "of the two carriers of the trunk the one to which it came later pays 5 coins" */
    private void lostByEachTrunkOfItsWay() {
        for (int trunks = 1; trunks <= 4; trunks++) {
            Story made = both(CHAINS[trunks], x -> x.call(0, 1));
            for (int c = 0; c < 5; c++) {
                for (int o = 0; o < 5; o++) {
                    if (c != o) {
                        lostByATrunk(made, trunks, c, o);
                    }
                }
            }
        }
    }

    private void lostByATrunk(Story made, int trunks, int c, int o) {
        boolean onWay = Math.abs(c - o) == 1 && Math.max(c, o) <= trunks;
        String what = "way of " + trunks + ", no lines " + c + ", " + o;
        Story after = both(made, x -> x.setTrunk(c, o, 0));
        answers(what, onWay ? 1 : 0, made, x -> x.setTrunk(c, o, 0));
        answers(what + ", state", onWay ? 2 : 0, after, x -> x.state(0));
        answers(what + ", lost", onWay ? 1 : 0, after, x -> x.lost());
        answers(what + ", one line is enough", 0, made, x -> x.setTrunk(c, o, 1));
        for (int carrier = 0; carrier < 5; carrier++) {
            int k = carrier;
            int paid = onWay && k == Math.max(c, o) ? 5 : 0;
            int got = onWay && k == Math.min(c, o) ? 5 : 0;
            answers(what + ", losses of " + k, paid, after, x -> x.losses(k));
            answers(what + ", coins of " + k, got - paid, after, x -> x.coins(k));
        }
    }

    /** "not so many carriers were on its way" */
    private void placesOnTheWay() {
        for (int place : outside(2)) {
            refuses("an ended one, place " + place, INDEX, BUSY, x -> x.carrierAt(0, place));
            refuses("a lost one, place " + place, INDEX, BUSY, x -> x.carrierAt(2, place));
        }
        answers("an ended one, the last place", 1, BUSY, x -> x.carrierAt(0, 1));
        answers("a lost one, the last place", 3, BUSY, x -> x.carrierAt(2, 1));
        refuses("the next call's place", INDEX, FULL, x -> x.carrierAt(0, 1));
        answers("trunks of the first of sixty", 0, FULL, x -> x.trunks(0));
        answers("trunks of the last of sixty", 1, FULL, x -> x.trunks(59));
        Story longest = both(CHAINS[4], x -> {
            x.call(6, 5);
            x.call(0, 1);
            x.call(10, 8);
        });
        for (int place = 0; place < 5; place++) {
            int p = place;
            answers("the longest way between two short ones", p, longest, x -> x.carrierAt(1, p));
        }
        answers("the last place of the call before", 0, longest, x -> x.carrierAt(0, 1));
        answers("the first place of the next call", 0, longest, x -> x.carrierAt(2, 0));
        Story carried = both(CHAINS[2], x -> {
            x.call(0, 1);
            x.port(1, 4);
            x.port(0, 3);
        });
        answers("a port later on leaves the way", 2, carried, x -> x.trunks(0));
        answers("a port later on leaves the first place", 0, carried, x -> x.carrierAt(0, 0));
        answers("a port later on leaves the last place", 2, carried, x -> x.carrierAt(0, 2));
        answers("a port later on leaves the lines", 1, carried, x -> x.free(1, 2));
    }

    /** "whether the numbers are in calls or barred or not" */
    private void routeChangesNothing() {
        Story talks = x -> x.call(0, 1);
        answers("both in a call", 1, talks, x -> x.route(0, 1));
        answers("one in a call", 1, talks, x -> x.route(2, 1));
        Story barred = both(talks, x -> {
            x.pass(1);
            x.judge(0);
        });
        answers("barred", 1, barred, x -> x.route(0, 6));
        answers("60 calls were made", 1, FULL, x -> x.route(0, 6));
        Story asked = both(CHAINS[4], x -> {
            x.setTrunk(3, 4, 0);
            x.route(0, 1);
            x.route(0, 6);
        });
        answers("none lost", 0, asked, x -> x.lost() + x.calls());
        answers("none paid", 0, asked, x -> x.losses(3) + x.coins(0));
        answers("no line taken", 2, asked, x -> x.free(0, 1));
        answers("none in a call", -1, asked, x -> x.callOf(0));
    }

    /**
     * "or the carrier was on its way already": a carrier knows at once each port to it, so none is
     * ever sent there again; with lines free each call comes through, over 4 trunks at most.
     */
    private void eachWayEnds() {
        for (int run = 0; run < 400; run++) {
            Random random = new Random(run);
            Counted x = new Counted();
            int ports = 1 + random.nextInt(60);
            int slow = random.nextInt(3);
            for (int i = 0; i < ports; i++) {
                x.setDelay(random.nextInt(5), slow == 0 ? 5000 : random.nextInt(60));
                int n = random.nextInt(slow == 1 ? 12 : 2);
                x.port(n, (x.carrierOf(n) + 1 + random.nextInt(4)) % 5);
                if (random.nextBoolean()) {
                    x.pass(1 + random.nextInt(20));
                }
            }
            for (int n = 0; n < 12; n++) {
                for (int other = 0; other < 12; other++) {
                    int trunks = n == other ? 0 : x.route(n, other);
                    same("run " + run + " ends", 1, trunks >= 0 && trunks <= 4 ? 1 : 0);
                }
            }
        }
    }

    /** "those that never came through and those that ended by a trunk" */
    private void lostAreCounted() {
        answers("none", 0, NEW, x -> x.lost() + x.calls());
        Story through = calls(3);
        answers("ended ones are not lost", 0, through, x -> x.lost());
        Story mixed = both(through, x -> {
            x.call(0, 1);
            x.setTrunk(0, 1, 0);
            x.call(0, 1);
            x.call(5, 6);
        });
        answers("one by a trunk and two as they were made", 3, mixed, x -> x.lost());
        answers("four came through", 4, mixed, x -> x.calls());
        answers("a refused one is not lost", 3, mixed, x -> {
            Check.outcome(() -> x.call(0, 0));
            Check.outcome(() -> x.call(0, 12));
            return x.lost();
        });
    }
}
