/** The Terms on time, hours and days, at their first and last seconds, and promises 12 to 14. */
final class TimeEdgesTest extends Edges {
    private static final int LAST = 20000;
    private static final int DAY = 1440;

    private TimeEdgesTest() {
        super("TimeEdgesTest");
    }

    public static void main(String[] args) {
        TimeEdgesTest test = new TimeEdgesTest();
        test.go();
        test.end();
    }

    private void go() {
        the512thCallAnswers();
        timeCanBecome20000();
        allElseGoesOnAt20000();
        secondsToPass();
        eachHourOfEachDay();
        lastHourOfAll();
        wholeDays();
        pricesCountFromNow();
        pricesAtATurnOfTheHours();
        portsCountFromNow();
        salesCountFromNow();
        callsCountFromNow();
        lossesCountFromNow();
        nothingCountsAt20000();
        keptAndAnewAreTheSame();
    }

    /** "An object is used for at most 512 calls after it has been made" */
    private void the512thCallAnswers() {
        Story of511 = x -> {
            x.call(0, 5);
            for (int i = 0; i < 510; i++) {
                x.pass(1);
            }
        };
        answers("the 512th call, one that changes", 2, of511, x -> x.pass(1));
        answers("the 512th call, one that looks", 480 + 2 * 30, of511, x -> x.chargedAnew(0));
        same("calls left after 511", 1, told(of511).left());
    }

    private static Counted told(Story story) {
        Counted x = new Counted();
        story.tell(x);
        return x;
    }

    /** "Time is the second of now, 0 at first; it can become 20000." */
    private void timeCanBecome20000() {
        answers("second at first", 0, NEW, x -> x.second());
        answers("second after one", 1, at(1), x -> x.second());
        answers("second 19999", LAST - 1, at(LAST - 1), x -> x.second());
        answers("second 20000", LAST, at(LAST), x -> x.second());
        int[] starts = {18000, 18001, 18500, 19998, 19999};
        for (int start : starts) {
            Story before = at(start);
            int most = LAST - start;
            answers(start + " and all that is left", LAST, before, x -> {
                x.pass(most);
                return x.second();
            });
            answers(start + " and one less", LAST - 1, before, x -> {
                if (most > 1) {
                    x.pass(most - 1);
                }
                return x.second();
            });
            if (most < 2000) {
                refuses(start + " and one more", STATE, before, x -> x.pass(most + 1));
                refuses(start + " and the most", STATE, before, x -> x.pass(2000));
            }
        }
        for (int seconds : new int[] {1, 2, 1999, 2000}) {
            refuses("20000 and " + seconds, STATE, AT_END, x -> x.pass(seconds));
        }
    }

    private void allElseGoesOnAt20000() {
        Story end = at(LAST);
        answers("20000: a call", 0, end, x -> x.call(0, 1));
        answers("20000: a call of no second", 0, end, x -> x.hangUp(x.call(0, 1)));
        answers("20000: a port", 0, end, x -> x.port(0, 1));
        answers("20000: a sale", 0, end, x -> x.sell(0, 1));
        answers("20000: prices", 2, end, x -> x.setPrices(0, 9, 9));
        answers("20000: a delay", 100, end, x -> x.setDelay(0, 5000));
        answers("20000: a trunk", 0, end, x -> x.setTrunk(0, 1, 5));
        answers("20000: a bond", 1, end, x -> x.bond(0, 1));
        answers("20000: where a number is", 1, end, x -> x.port(9, 1) + x.carrierThen(9, LAST));
        answers("20000: a call that went on is ended", LAST, AT_END, x -> x.hangUp(0));
    }

    /** "seconds: 1 to 2000" */
    private void secondsToPass() {
        int[] bad = {0, -1, -2000, 2001, 2002, LAST, LEAST, LEAST + 1, MOST};
        for (int s = 0; s < ALL.length; s++) {
            for (int seconds : bad) {
                String what = "pass(" + seconds + ") when " + NAMES[s];
                refuses(what, ARGUMENT, ALL[s], x -> x.pass(seconds));
            }
        }
        for (int seconds : new int[] {1, 2, 1999, 2000}) {
            answers("second after pass " + seconds, seconds, NEW, x -> {
                x.pass(seconds);
                return x.second();
            });
        }
        Story talk = x -> x.call(0, 5);
        answers("charged in the fewest", 1, talk, x -> x.pass(1));
        answers("charged in the most", 480 + 720 * 2 + 720 + 80 * 2, talk, x -> x.pass(2000));
        answers("charged in one less", 480 + 720 * 2 + 720 + 79 * 2, talk, x -> x.pass(1999));
        answers("charged in no call", 0, NEW, x -> x.pass(2000));
        answers("charged in an ended call", 0, both(talk, x -> x.hangUp(0)), x -> x.pass(9));
    }

    /** "An hour has 60 seconds, a day 24 hours; the hours 8 to 19 of a day are dear" */
    private void eachHourOfEachDay() {
        for (int day = 0; day < 13; day++) {
            Counted x = told(at(day * DAY));
            x.call(0, 5);
            for (int hour = 0; hour < 24; hour++) {
                hourOf(x, "day " + day + " hour " + hour, hour >= 8 && hour <= 19 ? 2 : 1);
            }
            same("day " + day + " anew", DAY + DAY / 2, x.chargedAnew(0));
        }
    }

    private void hourOf(Exchange x, String what, int price) {
        same(what + ", its first second is dear", price, x.isDear() ? 2 : 1);
        same(what + ", its first second", price, x.pass(1));
        same(what + ", between", 58 * price, x.pass(58));
        same(what + ", its last second is dear", price, x.isDear() ? 2 : 1);
        same(what + ", its last second", price, x.pass(1));
    }

    private void lastHourOfAll() {
        Counted x = told(at(13 * DAY));
        x.call(0, 5);
        for (int hour = 0; hour < 21; hour++) {
            hourOf(x, "day 13 hour " + hour, hour >= 8 && hour <= 19 ? 2 : 1);
        }
        same("the first second of the hour that breaks off", 1, x.pass(1));
        same("all but its last one", 18, x.pass(18));
        same("the last second that there is", 1, x.pass(1));
        same("second", LAST, x.second());
        same("is not dear", 0, x.isDear() ? 1 : 0);
        same("anew", LAST - 13 * DAY + 720, x.chargedAnew(0));
    }

    private void wholeDays() {
        Story talk = x -> x.call(0, 5);
        int[] starts = {0, 1, 479, 480, 481, 1199, 1200, 1201, 1439, 1440, 1441, 18560};
        for (int from : starts) {
            Story before = both(at(from), talk);
            answers("a day from " + from, DAY + DAY / 2, before, x -> x.pass(DAY));
            answers("and anew", DAY + DAY / 2, before, x -> {
                x.pass(DAY);
                return x.chargedAnew(0);
            });
        }
        answers("up to the dear hours", 480, talk, x -> x.pass(480));
        answers("one into them", 480 + 2, talk, x -> x.pass(481));
        Story dear = both(at(480), talk);
        answers("the dear hours", 1440, dear, x -> x.pass(720));
        answers("one less", 1438, dear, x -> x.pass(719));
        answers("one more", 1441, dear, x -> x.pass(721));
        answers("all time", LAST + 14 * 720, talk, x -> passTo(x, LAST));
        answers("all time anew", LAST + 14 * 720, talk, x -> {
            passTo(x, LAST);
            return x.chargedAnew(0);
        });
    }

    /** "What is told from now on counts from the second of now on, that included" */
    private void pricesCountFromNow() {
        for (int second : new int[] {0, 1, 10}) {
            Story before = x -> {
                x.call(0, 5);
                passTo(x, second);
                x.setPrices(0, 0, 7);
                x.setPrices(0, 0, 8);
                x.setPrices(1, 9, 9);
            };
            answers("the seconds before " + second, second, before, x -> x.chargedAnew(0));
            answers("prices from " + second, 8, before, x -> x.pass(1));
            answers("prices from " + second + " anew", second + 16, before, x -> {
                x.pass(2);
                return x.chargedAnew(0);
            });
            answers("back in the same second", 1, before, x -> {
                x.setPrices(0, 2, 1);
                return x.pass(1);
            });
        }
    }

    private void pricesAtATurnOfTheHours() {
        Story before = x -> {
            x.call(0, 5);
            passTo(x, 479);
            x.setPrices(0, 9, 8);
        };
        answers("the last cheap second", 8, before, x -> x.pass(1));
        answers("and the first dear one", 17, before, x -> x.pass(2));
        Story at480 = both(before, x -> {
            x.pass(1);
            x.setPrices(0, 5, 6);
        });
        answers("told in the first dear one", 5, at480, x -> x.pass(1));
        answers("and anew", 479 + 8 + 5 * 720 + 6, at480, x -> {
            x.pass(721);
            return x.chargedAnew(0);
        });
    }

    private void portsCountFromNow() {
        Story before = x -> {
            x.setPrices(1, 9, 9);
            x.call(0, 5);
            x.bond(0, 100);
            x.pass(10);
            x.port(0, 1);
        };
        answers("second 9", 0, before, x -> x.carrierThen(0, 9));
        answers("second 10", 1, before, x -> x.carrierThen(0, 10));
        answers("charged from 10 on", 9, before, x -> x.pass(1));
        answers("by the new one", 9, before, x -> x.pass(1) + x.earned(1) - x.earnedAnew(1));
        answers("the old one has those before", 10, before, x -> x.pass(1) - 9 + x.earnedAnew(0));
        answers("second 11 is not yet", 1, before, x -> x.pass(1) - 9 + x.carrierThen(0, 11));
        Story back = both(before, x -> x.port(0, 0));
        answers("there and back in a second", 0, back, x -> x.carrierThen(0, 10));
        answers("has no second there", 1, back, x -> x.pass(1));
        answers("nor anew", 0, back, x -> x.pass(1) - 1 + x.earnedAnew(1) + x.earned(1));
        answers("ported at 0", 4, x -> x.port(0, 4), x -> x.carrierThen(0, 0));
    }

    private void salesCountFromNow() {
        Story before = x -> {
            x.call(0, 5);
            x.pass(10);
            x.sell(0, 3);
        };
        answers("the seconds before", 10, before, x -> x.spentAnew(0));
        answers("no second yet", 0, before, x -> x.spent(3) + x.spentAnew(3));
        answers("second 10", 1, before, x -> x.pass(1) - 1 + x.spent(3));
        answers("second 10 anew", 1, before, x -> x.pass(1) - 1 + x.spentAnew(3));
        answers("not the one before", 10, before, x -> x.pass(1) - 1 + x.spentAnew(0));
        Story twice = both(before, x -> x.sell(0, 4));
        answers("sold twice in a second, the first", 0, twice, x -> x.pass(1) - 1 + x.spentAnew(3));
        answers("sold twice in a second, the last", 1, twice, x -> x.pass(1) - 1 + x.spentAnew(4));
        Story back = both(before, x -> x.sell(0, 0));
        answers("sold and bought back", 11, back, x -> x.pass(1) - 1 + x.spentAnew(0));
    }

    private void callsCountFromNow() {
        for (int second : new int[] {0, 479, 480, 1200, 19999}) {
            Story before = both(at(second), x -> x.call(0, 5));
            int price = second == 480 ? 2 : 1;
            answers("call at " + second, 0, before, x -> x.seconds(0) + x.charged(0));
            answers("ended in its second", 0, before, x -> x.hangUp(0));
            answers("ended in its second, anew", 0, before, x -> x.hangUp(0) + x.chargedAnew(0));
            answers("its first second", price, before, x -> x.pass(1));
            Story passed = both(before, x -> x.pass(1));
            answers("its first second, anew", price, passed, x -> x.chargedAnew(0));
            answers("ended after it", 1, passed, x -> x.hangUp(0));
        }
        Story ended = x -> {
            x.call(0, 5);
            x.pass(7);
            x.hangUp(0);
        };
        answers("the second of its end is not its own", 0, ended, x -> x.pass(1));
        answers("nor anew", 7, ended, x -> x.pass(1) + x.chargedAnew(0));
        answers("nor among its seconds", 7, ended, x -> x.pass(1) + x.seconds(0));
        answers("the numbers are free in that second", 1, ended, x -> x.call(5, 0));
        answers("and charged by the next call", 1, ended, x -> x.call(5, 0) - 1 + x.pass(1));
    }

    private void lossesCountFromNow() {
        Story before = x -> {
            x.call(0, 1);
            x.pass(7);
            x.setTrunk(0, 1, 0);
        };
        answers("the second of its loss is not its own", 0, before, x -> x.pass(1));
        answers("nor anew", 7, before, x -> x.pass(1) + x.chargedAnew(0));
        answers("nor among its seconds", 7, before, x -> x.pass(1) + x.seconds(0));
        answers("the number is free in that second", 1, before, x -> x.call(0, 5));
        Story atOnce = x -> {
            x.call(0, 1);
            x.setTrunk(0, 1, 0);
        };
        answers("lost in its first second", 0, atOnce, x -> x.pass(1) + x.seconds(0));
        answers("lost in its first second, anew", 0, atOnce, x -> x.pass(1) + x.chargedAnew(0));
    }

    private void nothingCountsAt20000() {
        Story before = both(AT_END, x -> {
            x.setPrices(0, 9, 9);
            x.setPrices(2, 9, 9);
            x.sell(0, 1);
            x.sell(2, 1);
        });
        int talk = LAST + 14 * 720;
        answers("told at 20000: call 0, not all at 1", talk + 7, before, x -> x.chargedAnew(0));
        answers("told at 20000: call 1", talk, before, x -> x.chargedAnew(1));
        answers("told at 20000: the new owner", 0, before, x -> x.spentAnew(1) + x.spent(1));
        answers("told at 19999: one second", 8, AT_END, x -> x.charged(0) - talk + 1);
    }

    /** "so that each second of talk has one carrier and one payer" */
    private void keptAndAnewAreTheSame() {
        for (int s = 0; s < ALL.length; s++) {
            booksAgree("when " + NAMES[s], ALL[s]);
        }
        for (int second : new int[] {1, 60, 479, 480, 481, 1199, 1200, 1201, 1439, 1440, 1441}) {
            Story busy = both(BUSY, x -> passTo(x, 500 + second));
            booksAgree("busy and " + second + " more", busy);
            Story full = both(FULL, x -> x.pass(second));
            booksAgree("full and " + second + " more", full);
        }
    }
}
