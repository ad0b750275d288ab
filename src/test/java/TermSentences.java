/** 'What it is' and 'Terms' of the document, sentence by sentence. */
final class TermSentences extends Sentences {
    private static final String[] OF_CARRIERS = {"coins", "earned", "earnedAnew", "losses"};
    private static final String[] OF_PERSONS = {"spent", "spentAnew"};
    private static final String[] OF_NUMBERS = {
        "carrierOf", "ownerOf", "debt", "debtAnew", "bondOf", "isBarred", "callOf", "judge"};
    private static final String[] OF_CALLS = {
        "state", "trunks", "seconds", "charged", "chargedAnew", "hangUp"};

    TermSentences(Check check) {
        super(check);
    }

    @Override
    void go() throws Exception {
        under("What it is");
        whatItIs();
        atMost512Calls();
        under("Terms");
        keptAndToldOnceMore();
        time();
        whoThereIs();
        pricesAndTrunks();
        ports();
        callsAndTheirWays();
        lostCalls();
        charges();
        debtsAndBonds();
        carriedWithADebt();
        court();
        exceptions();
        noSuchOne();
        headings();
    }

    private void whatItIs() {
        says("A telephone exchange of several carriers, where numbers are carried from one to ",
            "another and take their debts along: trunks with lines that calls take, routes that ",
            "follow a port only when the news of it has come, calls that are charged second by ",
            "second by the carrier of the hour, debts that bar a port unless there is a bond, a ",
            "court, and calls that are lost between carriers and paid for by the later one.");
        Story carried = both(owes(10, 10), x -> x.port(0, 1));
        holds(10, carried, x -> x.debt(0));
        holds(2, carried, x -> x.route(2, 0));
        holds(1, both(carried, x -> x.pass(100)), x -> x.route(2, 0));
        holds(1, both(carried, x -> x.call(2, 0)), x -> x.free(2, 0));
        holds(1, both(carried, x -> x.call(2, 0)), x -> x.pass(1));
        refused(STATE, owes(10), x -> x.port(0, 1));
        holds(7, owes(10, 3), x -> x.judge(0));
        Story lost = both(carried, x -> {
            x.setTrunk(0, 1, 0);
            x.call(2, 0);
        });
        holds(5, lost, x -> x.losses(0));
    }

    private void atMost512Calls() {
        says("An object is used for at most 512 calls after it has been made; what later calls ",
            "answer is free.");
        holds(511, x -> {
            for (int i = 0; i < 510; i++) {
                x.pass(1);
            }
        }, x -> x.pass(1) + 511);
    }

    private void keptAndToldOnceMore() {
        says("Charges are kept as time goes by, and told once more from ports, sales, tariffs and ",
            "calls alone, so that each second of talk has one carrier and one payer.");
        Story talk = x -> {
            x.call(0, 5);
            x.pass(3);
        };
        holds(3, talk, x -> x.charged(0));
        holds(3, talk, x -> x.chargedAnew(0));
        holds(3, both(talk, x -> x.pay(0, 2)), x -> x.chargedAnew(0));
        holds(3, both(talk, x -> x.judge(0)), x -> x.chargedAnew(0));
        for (Story story : ALL) {
            booksHold(story);
        }
        booksHold(x -> {
            x.bond(0, 5000);
            x.call(0, 7);
            x.pass(470);
            x.port(0, 4);
            x.sell(0, 3);
            x.pass(20);
            x.setPrices(4, 9, 8);
            x.sell(0, 0);
            x.pass(800);
        });
        booksHold(TermSentences::changesInEachSecond);
    }

    /** As many changes as can be told in seconds of one call. */
    private static void changesInEachSecond(Exchange x) {
        x.bond(0, 5000);
        x.call(0, 1);
        for (int i = 0; i < 60; i++) {
            x.pass(1);
            x.port(0, i % 2 == 0 ? 4 : 0);
            x.pass(1);
            x.sell(0, i % 2 == 0 ? 5 : 0);
            x.pass(1);
            x.setPrices(i % 2 == 0 ? 4 : 0, 9, 1 + i % 7);
        }
        x.pass(3);
    }

    private void time() {
        says("Time is the second of now, 0 at first; it can become 20000.");
        holds(0, NEW, x -> x.second());
        holds(20000, at(20000), x -> x.second());
        refused(STATE, at(20000), x -> x.pass(1));
        says("An hour has 60 seconds, a day 24 hours; the hours 8 to 19 of a day are dear, ",
            "others cheap.");
        for (int hour = 0; hour < 50; hour++) {
            int dear = hour % 24 >= 8 && hour % 24 <= 19 ? 1 : 0;
            holds(dear, at(60 * hour), x -> x.isDear() ? 1 : 0);
            holds(dear, at(60 * hour + 59), x -> x.isDear() ? 1 : 0);
            holds(60 + 60 * dear, both(at(60 * hour), x -> x.call(0, 5)), x -> x.pass(60));
        }
        says("What is told from now on counts from the second of now on, that included; a second ",
            "is that from its beginning to the next one.");
        Story talk = x -> {
            x.bond(0, 100);
            x.call(0, 5);
            x.pass(7);
        };
        holds(9, both(talk, x -> x.setPrices(0, 9, 9)), x -> x.pass(1));
        holds(7, both(talk, x -> x.setPrices(0, 9, 9)), x -> x.chargedAnew(0));
        holds(4, both(talk, x -> x.port(0, 4)), x -> x.carrierThen(0, 7));
        holds(0, both(talk, x -> x.port(0, 4)), x -> x.carrierThen(0, 6));
        holds(1, both(talk, x -> x.port(0, 4)), x -> x.pass(1) - 1 + x.earnedAnew(4));
        holds(1, both(talk, x -> x.sell(0, 3)), x -> x.pass(1) - 1 + x.spentAnew(3));
        holds(7, both(talk, x -> x.sell(0, 3)), x -> x.pass(1) - 1 + x.spentAnew(0));
        holds(7, both(talk, x -> x.hangUp(0)), x -> x.pass(1) + x.seconds(0));
    }

    private void whoThereIs() {
        says("Carriers are 0 to 4, persons 0 to 5, numbers 0 to 11.");
        for (Story story : ALL) {
            refusedOutside(5, story, (x, c) -> x.coins(c));
            refusedOutside(6, story, (x, p) -> x.spent(p));
            refusedOutside(12, story, (x, n) -> x.debt(n));
        }
        holds(0, NEW, x -> x.coins(0) + x.coins(4) + x.spent(0) + x.spent(5));
        holds(0, NEW, x -> x.debt(0) + x.debt(11));
        says("At first the number n is at the carrier n modulo 5, and owned by the person n ",
            "modulo 6.");
        for (int number = 0; number < 12; number++) {
            int n = number;
            holds(n % 5, NEW, x -> x.carrierOf(n));
            holds(n % 6, NEW, x -> x.ownerOf(n));
        }
    }

    private void pricesAndTrunks() {
        says("A carrier has two prices for a second, one for dear hours and one for cheap ones, 0 ",
            "to 9; at first 2 and 1.");
        for (int carrier = 0; carrier < 5; carrier++) {
            int c = carrier;
            Story talk = x -> x.call(c, c + 5);
            holds(2, NEW, x -> x.setPrices(c, 0, 0));
            holds(1, talk, x -> x.pass(1));
            holds(2, both(at(480), talk), x -> x.pass(1));
            Story set = both(x -> x.setPrices(c, 9, 0), talk);
            holds(0, set, x -> x.pass(1));
            holds(9, both(at(480), set), x -> x.pass(1));
            refused(ARGUMENT, NEW, x -> x.setPrices(c, 10, 0));
            refused(ARGUMENT, NEW, x -> x.setPrices(c, 0, -1));
        }
        says("Between each two carriers there is a trunk with some lines, 0 to 5, 2 at first.");
        for (int carrier = 0; carrier < 5; carrier++) {
            for (int other = 0; other < 5; other++) {
                if (carrier != other) {
                    trunkBetween(carrier, other);
                }
            }
        }
    }

    private void trunkBetween(int c, int o) {
        holds(2, NEW, x -> x.free(c, o));
        holds(5, x -> x.setTrunk(c, o, 5), x -> x.free(o, c));
        holds(2 * 10 + 3, x -> x.setTrunk(c, o, 5), TermSentences::allFree);
        holds(0, x -> x.setTrunk(c, o, 0), x -> x.free(c, o));
        refused(ARGUMENT, NEW, x -> x.setTrunk(c, o, 6));
        refused(ARGUMENT, NEW, x -> x.setTrunk(c, o, -1));
    }

    private static long allFree(Exchange x) {
        long sum = 0;
        for (int c = 0; c < 5; c++) {
            for (int o = 0; o < c; o++) {
                sum += x.free(c, o);
            }
        }
        return sum;
    }

    private void ports() {
        says("When a number is carried to another carrier, both know it at once, each other ",
            "carrier so many seconds later as its delay tells then, 0 to 5000, at first 100.");
        Story ported = x -> {
            x.setDelay(3, 5000);
            x.setDelay(4, 0);
            x.port(0, 1);
            x.setDelay(2, 0);
        };
        int[] knownAt = {0, 0, 100, 5000, 0};
        for (int carrier = 0; carrier < 5; carrier++) {
            int c = carrier;
            int second = knownAt[c];
            holds(1, both(ported, at(second)), x -> x.believed(c, 0));
            if (second > 0) {
                holds(0, both(ported, at(second - 1)), x -> x.believed(c, 0));
            }
        }
        refused(ARGUMENT, NEW, x -> x.setDelay(3, 5001));
        refused(ARGUMENT, NEW, x -> x.setDelay(3, -1));
        says("A carrier believes a number to be where the latest port of it that is known to it ",
            "carried it, where it was at first if none is.");
        Story twice = x -> {
            x.setDelay(2, 50);
            x.port(0, 1);
            x.setDelay(2, 20);
            x.port(0, 4);
        };
        holds(0, both(twice, at(19)), x -> x.believed(2, 0));
        holds(4, both(twice, at(20)), x -> x.believed(2, 0));
        holds(4, both(twice, at(50)), x -> x.believed(2, 0));
        holds(1, twice, x -> x.believed(0, 0));
        holds(0, twice, x -> x.believed(2, 5));
        holds(3, NEW, x -> x.believed(2, 8));
    }

    private void callsAndTheirWays() {
        says("A call goes from one number to another one, each of which is in one call at most.");
        holds(0, x -> x.call(0, 1), x -> x.callOf(0) + x.callOf(1));
        refused(STATE, x -> x.call(0, 1), x -> x.call(0, 2));
        refused(STATE, x -> x.call(0, 1), x -> x.call(1, 2));
        refused(STATE, x -> x.call(0, 1), x -> x.call(2, 0));
        refused(STATE, x -> x.call(0, 1), x -> x.call(2, 1));
        refused(ARGUMENT, NEW, x -> x.call(0, 0));
        says("It begins at the carrier of the caller's number; from there it is sent on, over the ",
            "trunk to the carrier where the carrier that has it believes the other number to be, ",
            "until it comes to the one where that number is.");
        Story way = both(chain(2, 3), x -> {
            x.port(5, 4);
            x.call(5, 1);
        });
        int[] stops = {4, 1, 2, 3};
        holds(3, way, x -> x.trunks(0));
        for (int place = 0; place < stops.length; place++) {
            int p = place;
            holds(stops[p], way, x -> x.carrierAt(0, p));
        }
        holds(0, x -> x.call(0, 5), x -> x.trunks(0) + x.carrierAt(0, 0));
        sentOn();
        linesOfItsWay();
    }

    private void sentOn() {
        says("It cannot be sent on if no line of the trunk is free, or the carrier was on its way ",
            "already.");
        holds(-1, both(chain(2), x -> x.setTrunk(1, 2, 0)), x -> x.call(0, 1));
        holds(0, both(chain(2), x -> x.setTrunk(1, 2, 1)), x -> x.call(0, 1));
        Story full = x -> {
            x.setTrunk(0, 1, 1);
            x.call(0, 1);
        };
        holds(-1, full, x -> x.call(5, 6));
        holds(1, both(full, x -> x.setTrunk(0, 1, 2)), x -> x.call(5, 6));
        holds(2, chain(0, 1, 2), x -> x.route(0, 1));
        holds(3, chain(2, 1, 3, 1, 2, 4), x -> x.route(0, 1));
    }

    private void linesOfItsWay() {
        says("If it comes there it takes a line of each trunk on its way, until it ends; ",
            "otherwise it is lost.");
        Story made = both(chain(2), x -> x.call(0, 1));
        holds(1, made, x -> x.free(0, 1));
        holds(1, made, x -> x.free(1, 2));
        holds(2, made, x -> x.free(0, 2));
        holds(4, both(made, x -> x.hangUp(0)), x -> x.free(0, 1) + x.free(1, 2));
        holds(2, both(made, x -> x.setTrunk(0, 1, 0)), x -> x.free(1, 2));
        Story lost = both(chain(2), x -> {
            x.setTrunk(1, 2, 0);
            x.call(0, 1);
        });
        holds(1, lost, x -> x.lost());
        holds(2, lost, x -> x.free(0, 1));
        holds(-1, lost, x -> x.callOf(0));
    }

    private void lostCalls() {
        says("A call that is lost as it is made, and came to another carrier than the first one, ",
            "is paid for: the last carrier to which it came pays 5 coins to the first one.");
        Story lost = both(chain(2, 3), x -> {
            x.setTrunk(2, 3, 0);
            x.call(0, 1);
        });
        int[] coins = {5, 0, -5, 0, 0};
        for (int carrier = 0; carrier < 5; carrier++) {
            int c = carrier;
            holds(coins[c], lost, x -> x.coins(c));
            holds(Math.max(-coins[c], 0), lost, x -> x.losses(c));
        }
        Story atOnce = x -> {
            x.setTrunk(0, 1, 0);
            x.call(0, 1);
        };
        holds(1, atOnce, x -> x.lost());
        holds(0, atOnce, x -> x.losses(0) + x.losses(1));
        holds(0, atOnce, x -> x.coins(0));
        Story from4 = both(chain(2), x -> {
            x.setTrunk(1, 2, 0);
            x.call(4, 1);
        });
        holds(5, from4, x -> x.coins(4));
        holds(-5, from4, x -> x.coins(1));
        holds(0, from4, x -> x.coins(0));
        says("When a trunk is left with fewer lines than calls take, the call with the highest ",
            "number of those that take one ends, lost, as long as there are too many; of the two ",
            "carriers of the trunk the one to which it came later pays 5 coins to the other one.");
        Story four = x -> {
            x.setTrunk(0, 1, 5);
            x.call(0, 1);
            x.call(6, 5);
            x.call(10, 11);
            x.call(2, 3);
        };
        Story left = both(four, x -> x.setTrunk(0, 1, 1));
        int[] states = {0, 2, 2, 0};
        for (int call = 0; call < states.length; call++) {
            int k = call;
            holds(states[k], left, x -> x.state(k));
        }
        holds(0, both(four, x -> x.setTrunk(0, 1, 3)), x -> x.lost());
        holds(5, both(four, x -> x.setTrunk(0, 1, 2)), x -> x.losses(1));
        holds(-5, both(four, x -> x.setTrunk(0, 1, 2)), x -> x.coins(1));
        holds(5, left, x -> x.losses(0));
        holds(0, left, x -> x.coins(0));
        Story made = both(chain(2), x -> x.call(0, 1));
        holds(1, made, x -> x.setTrunk(1, 2, 0));
        holds(1, made, x -> x.setTrunk(2, 1, 0));
        holds(5, both(made, x -> x.setTrunk(2, 1, 0)), x -> x.losses(2));
        callsThatTakeNone();
    }

    /** Above the one that takes a line: one by another way, an ended one, and four that go aside. */
    private void callsThatTakeNone() {
        Story before = both(chain(2), x -> {
            x.port(6, 0);
            x.port(9, 2);
            x.call(10, 2);
            x.call(0, 1);
            x.hangUp(x.call(5, 7));
            x.call(5, 8);
            x.call(7, 3);
            x.call(11, 6);
            x.call(4, 9);
        });
        Story left = both(before, x -> x.setTrunk(0, 2, 0));
        int[] states = {2, 0, 1, 0, 0, 0, 0};
        for (int call = 0; call < states.length; call++) {
            int k = call;
            holds(states[k], left, x -> x.state(k));
        }
        holds(1, before, x -> x.setTrunk(2, 0, 0));
        holds(0, before, x -> x.setTrunk(0, 2, 1));
    }

    private void charges() {
        says("For each second of a call the price of the carrier of the caller's number in that ",
            "second, dear or cheap by its hour, is charged by that carrier: to the debt of the ",
            "number, and to the person that owns it then.");
        Story talk = x -> {
            x.setPrices(0, 9, 3);
            x.setPrices(4, 7, 5);
            passTo(x, 478);
            x.bond(0, 5000);
            x.call(0, 1);
            x.pass(1);
            x.sell(0, 4);
            x.pass(2);
            x.port(0, 4);
            x.pass(1);
        };
        holds(3 + 3 + 9 + 7, talk, x -> x.debt(0));
        holds(3 + 3 + 9 + 7, talk, x -> x.charged(0));
        holds(3 + 3 + 9, talk, x -> x.earned(0));
        holds(7, talk, x -> x.earned(4));
        holds(3, talk, x -> x.spent(0));
        holds(3 + 9 + 7, talk, x -> x.spent(4));
        holds(0, talk, x -> x.debt(1) + x.earned(1) + x.spent(1));
        holds(5, both(talk, at(1200)), x -> x.pass(1));
    }

    private void debtsAndBonds() {
        says("Debts are of numbers, and are owed to the carrier of the number.");
        holds(10, both(owes(10), x -> x.sell(0, 3)), x -> x.debt(0));
        holds(0, owes(10), x -> x.debt(5) + x.debt(6));
        holds(10, owes(10), x -> x.pay(0, 10) + x.coins(0));
        Story ported = both(owes(10, 10), x -> x.port(0, 1));
        holds(-4, ported, x -> x.pay(0, 6) - 4 + x.coins(1));
        says("What is paid goes to the carrier of the number.");
        holds(3, both(owes(10), x -> x.pay(0, 3)), x -> x.coins(0));
        holds(0, both(owes(10), x -> x.pay(0, 3)), x -> x.coins(1) + x.coins(2));
        holds(-7, both(ported, x -> x.pay(0, 3)), x -> x.coins(1));
        holds(10, both(ported, x -> x.pay(0, 3)), x -> x.coins(0));
        says("Each number has a bond, 0 at first; coins can be added to it, at most 5000 in all.");
        for (int number = 0; number < 12; number++) {
            int n = number;
            holds(0, NEW, x -> x.bondOf(n));
            holds(5000, x -> x.bond(n, 4999), x -> x.bond(n, 1));
            holds(7, x -> x.bond(n, 3), x -> x.bond(n, 4));
            refused(STATE, x -> x.bond(n, 4999), x -> x.bond(n, 2));
        }
    }

    private void carriedWithADebt() {
        says("A number with a debt can be carried only if its bond is not less than the debt; ",
            "then the new carrier pays the debt to the old one, and it is owed to the new one.");
        refused(STATE, owes(10), x -> x.port(0, 1));
        refused(STATE, owes(10, 9), x -> x.port(0, 1));
        holds(10, owes(10, 10), x -> x.port(0, 1));
        holds(10, owes(10, 11), x -> x.port(0, 1));
        Story ported = both(owes(10, 10), x -> x.port(0, 1));
        holds(-10, ported, x -> x.coins(1));
        holds(10, ported, x -> x.coins(0));
        holds(10, ported, x -> x.debt(0) * x.debtAnew(0) / 10);
        holds(10, ported, x -> x.bondOf(0));
        holds(0, both(ported, x -> x.judge(0)), x -> x.coins(1));
    }

    private void court() {
        says("The court takes of a number with a debt what the bond has, at most the debt, and ",
            "gives it to the carrier; if some debt is left, the number is barred from calling ",
            "until it has none.");
        int[] bonds = {0, 4, 9, 10, 11};
        for (int bond : bonds) {
            int taken = Math.min(bond, 10);
            Story judged = both(owes(10, bond), x -> x.judge(0));
            holds(bond - taken, judged, x -> x.bondOf(0));
            holds(10 - taken, judged, x -> x.debt(0));
            holds(taken, judged, x -> x.coins(0));
            holds(taken < 10 ? 1 : 0, judged, x -> x.isBarred(0) ? 1 : 0);
        }
        Story judged = both(owes(10, 4), x -> x.judge(0));
        refused(STATE, judged, x -> x.call(0, 1));
        refused(STATE, both(judged, x -> x.pay(0, 5)), x -> x.call(0, 1));
        holds(1, both(judged, x -> x.pay(0, 6)), x -> x.call(0, 1));
        holds(1, both(judged, x -> {
            x.bond(0, 6);
            x.judge(0);
        }), x -> x.call(0, 1));
        says("The coins of carriers are 0 at first, and may be below 0.");
        for (int carrier = 0; carrier < 5; carrier++) {
            int c = carrier;
            holds(0, NEW, x -> x.coins(c));
        }
        holds(-10, both(owes(10, 10), x -> x.port(0, 3)), x -> x.coins(3));
        Story lost = x -> {
            x.call(0, 2);
            x.setTrunk(0, 2, 0);
        };
        holds(-5, lost, x -> x.coins(2));
    }

    private void exceptions() {
        says("A call that throws an exception changes nothing.");
        refused(INDEX, BUSY, x -> x.setPrices(5, 9, 9));
        refused(ARGUMENT, BUSY, x -> x.setPrices(1, 9, 10));
        refused(ARGUMENT, BUSY, x -> x.setDelay(1, 5001));
        refused(ARGUMENT, BUSY, x -> x.setTrunk(1, 1, 0));
        refused(STATE, BUSY, x -> x.port(0, 1));
        refused(STATE, BUSY, x -> x.sell(0, 4));
        refused(STATE, BUSY, x -> x.bond(2, 5000));
        refused(ARGUMENT, BUSY, x -> x.pay(0, 5000));
        refused(STATE, BUSY, x -> x.judge(1));
        refused(STATE, BUSY, x -> x.call(0, 1));
        refused(STATE, BUSY, x -> x.hangUp(0));
        refused(ARGUMENT, BUSY, x -> x.pass(2001));
        refused(STATE, AT_END, x -> x.pass(1));
        refused(STATE, FULL, x -> x.setPrices(0, 0, 0));
        refused(STATE, FULL, x -> x.port(5, 1));
        refused(STATE, FULL, x -> x.sell(5, 1));
        refused(STATE, FULL, x -> x.call(5, 10));
        says("If several exceptions apply, the one that is named first in the throws clause is ",
            "thrown.");
        refused(INDEX, FULL, x -> x.setPrices(5, 10, 0));
        refused(ARGUMENT, FULL, x -> x.setPrices(4, 10, 0));
        refused(INDEX, NEW, x -> x.setDelay(5, 5001));
        refused(INDEX, NEW, x -> x.setTrunk(5, 5, 6));
        refused(INDEX, FULL, x -> x.port(12, 0));
        refused(INDEX, FULL, x -> x.sell(0, 6));
        refused(INDEX, NEW, x -> x.bond(12, 0));
        refused(ARGUMENT, x -> x.bond(0, 5000), x -> x.bond(0, 5001));
        refused(INDEX, NEW, x -> x.pay(12, 0));
        refused(INDEX, FULL, x -> x.call(12, 12));
        refused(ARGUMENT, FULL, x -> x.call(0, 0));
        refused(ARGUMENT, AT_END, x -> x.pass(0));
        refused(INDEX, NEW, x -> x.carrierThen(12, 1));
        refused(INDEX, NEW, x -> x.route(12, 12));
    }

    private void noSuchOne() {
        says("A method that takes a carrier, a person, a number, or a call that was made throws ",
            "IndexOutOfBoundsException if there is no such one.");
        noSuchOneOf(OF_CARRIERS, 5, NEW);
        noSuchOneOf(OF_PERSONS, 6, NEW);
        noSuchOneOf(OF_NUMBERS, 12, NEW);
        noSuchOneOf(OF_CALLS, 4, BUSY);
        noSuchOneOf(OF_CALLS, 0, x -> {
            x.setTrunk(0, 1, 0);
            x.call(0, 1);
        });
        refusedOutside(5, NEW, (x, c) -> x.setPrices(c, 1, 1));
        refusedOutside(5, NEW, (x, c) -> x.setDelay(c, 1));
        refusedOutside(5, NEW, (x, c) -> x.setTrunk(c, 0, 1));
        refusedOutside(5, NEW, (x, c) -> x.setTrunk(0, c, 1));
        refusedOutside(5, NEW, (x, c) -> x.port(0, c));
        refusedOutside(5, NEW, (x, c) -> x.believed(c, 0));
        refusedOutside(5, NEW, (x, c) -> x.free(c, 0));
        refusedOutside(5, NEW, (x, c) -> x.free(0, c));
        refusedOutside(6, NEW, (x, p) -> x.sell(0, p));
        refusedOutside(12, NEW, (x, n) -> x.port(n, 0));
        refusedOutside(12, NEW, (x, n) -> x.sell(n, 0));
        refusedOutside(12, NEW, (x, n) -> x.bond(n, 1));
        refusedOutside(12, NEW, (x, n) -> x.pay(n, 1));
        refusedOutside(12, NEW, (x, n) -> x.call(n, 0));
        refusedOutside(12, NEW, (x, n) -> x.call(0, n));
        refusedOutside(12, NEW, (x, n) -> x.carrierThen(n, 0));
        refusedOutside(12, NEW, (x, n) -> x.believed(0, n));
        refusedOutside(12, NEW, (x, n) -> x.route(n, 0));
        refusedOutside(12, NEW, (x, n) -> x.route(0, n));
        refusedOutside(4, BUSY, (x, k) -> x.carrierAt(k, 0));
    }

    private void noSuchOneOf(String[] names, int count, Story before) {
        for (String name : names) {
            refusedOutside(count, before, (x, which) -> x.ask(name, which, 0, 0));
        }
    }

    private void headings() throws Exception {
        Headings source = new Headings();
        for (String sentence : Doc.sentences()) {
            if (sentence.startsWith("Terms | Ahead of the calls ")) {
                says(sentence.substring("Terms | ".length()));
                holds(sentence.substring("Terms | ".length()), source.next());
            }
        }
        holds("", source.next());
    }
}
