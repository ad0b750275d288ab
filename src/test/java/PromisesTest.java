/** At least one test for each promise of the document: ordinary inputs, edges, wrong inputs. */
final class PromisesTest {
    private static final Class<IndexOutOfBoundsException> INDEX = IndexOutOfBoundsException.class;
    private static final Class<IllegalArgumentException> ARGUMENT = IllegalArgumentException.class;
    private static final Class<IllegalStateException> STATE = IllegalStateException.class;
    private static final int LEAST = Integer.MIN_VALUE;
    private static final int MOST = Integer.MAX_VALUE;
    private static final int[] NO_CARRIER = {-1, 5, LEAST, MOST};
    private static final int[] NO_PERSON = {-1, 6, LEAST, MOST};
    private static final int[] NO_NUMBER = {-1, 12, LEAST, MOST};

    private static final Check check = new Check("PromisesTest");
    private static Counted x = new Counted();

    private PromisesTest() {
    }

    public static void main(String[] args) {
        promise01();
        promise02();
        promise03();
        promise04();
        promise04Losses();
        promise04Ways();
        promise05();
        promise06();
        promise07();
        promise08();
        promise09();
        promise10();
        promise10Lost();
        promise11();
        promise12();
        promise13And14();
        promise15And16();
        promise17();
        promise18();
        promise19And20();
        promise21And22();
        promise23();
        promise24();
        promise25();
        promise26To28();
        promise29And30();
        promise31();
        promise32And33();
        promise33ManyChanges();
        promise34();
        promise35And36();
        promise37And38();
        promise39();
        failuresChangeNothing();
        check.end();
    }

    private static void anew() {
        x = new Counted();
    }

    private static void same(String what, long want, long got) {
        check.same(what, want, got);
    }

    private static void fails(String what, Class<? extends RuntimeException> want, Check.Answer call) {
        check.fails(what, want, call);
    }

    /** Lets many seconds go by, in as few calls as may be. */
    private static int passAll(int seconds) {
        int sum = 0;
        for (int left = seconds; left > 0; left -= 2000) {
            sum += x.pass(Math.min(left, 2000));
        }
        return sum;
    }

    private static void promise01() {
        anew();
        same("1 second", 0, x.second());
        same("1 calls", 0, x.calls());
        same("1 lost", 0, x.lost());
        for (int n = 0; n < 12; n++) {
            same("1 carrierOf " + n, n % 5, x.carrierOf(n));
            same("1 ownerOf " + n, n % 6, x.ownerOf(n));
            same("1 debt, bond, call of " + n, -1, x.debt(n) + x.bondOf(n) + x.callOf(n));
        }
        for (int c = 0; c < 5; c++) {
            same("1 coins, earned, losses of " + c, 0, x.coins(c) + x.earned(c) + x.losses(c));
            same("1 delay " + c, 100, x.setDelay(c, 100));
            same("1 free " + c, 2, x.free(c, (c + 1) % 5));
        }
    }

    private static void promise02() {
        anew();
        same("2 dear before", 2, x.setPrices(0, 9, 4));
        same("2 dear before", 9, x.setPrices(0, 0, 0));
        same("2 another carrier", 2, x.setPrices(4, 0, 9));
        same("2 in the same second", 0, x.setPrices(0, 7, 3));
        x.call(0, 1);
        same("2 cheap price", 30, x.pass(10));
        for (int bad : NO_CARRIER) {
            fails("2 carrier " + bad, INDEX, () -> x.setPrices(bad, 10, -1));
        }
        for (int bad : new int[] {-1, 10, LEAST, MOST}) {
            fails("2 dear " + bad, ARGUMENT, () -> x.setPrices(0, bad, 0));
            fails("2 cheap " + bad, ARGUMENT, () -> x.setPrices(0, 0, bad));
        }
        for (int i = 4; i < 60; i++) {
            x.setPrices(i % 5, i % 10, 1);
        }
        fails("2 60 times", STATE, () -> x.setPrices(0, 1, 1));
        fails("2 60 times, no carrier", INDEX, () -> x.setPrices(5, 1, 1));
        fails("2 60 times, too dear", ARGUMENT, () -> x.setPrices(0, 10, 1));
    }

    private static void promise03() {
        anew();
        same("3 before", 100, x.setDelay(2, 0));
        same("3 before", 0, x.setDelay(2, 5000));
        same("3 before", 5000, x.setDelay(2, 7));
        x.port(0, 1);
        x.setDelay(2, 0);
        x.pass(6);
        same("3 ports to come only", 0, x.believed(2, 0));
        x.pass(1);
        same("3 the delay of then", 1, x.believed(2, 0));
        for (int bad : NO_CARRIER) {
            fails("3 carrier " + bad, INDEX, () -> x.setDelay(bad, -1));
        }
        for (int bad : new int[] {-1, 5001, LEAST, MOST}) {
            fails("3 seconds " + bad, ARGUMENT, () -> x.setDelay(0, bad));
        }
    }

    private static void promise04() {
        anew();
        same("4 none lost", 0, x.setTrunk(0, 1, 5));
        same("4 from the other end", 5, x.free(1, 0));
        same("4 others stay", 2, x.free(0, 2));
        same("4 none left", 0, x.setTrunk(1, 0, 0));
        same("4 none left", 0, x.free(0, 1));
        for (int bad : NO_CARRIER) {
            fails("4 carrier " + bad, INDEX, () -> x.setTrunk(bad, 0, 6));
            fails("4 other " + bad, INDEX, () -> x.setTrunk(0, bad, -1));
            fails("4 both " + bad, INDEX, () -> x.setTrunk(bad, bad, -1));
        }
        fails("4 one and the same", ARGUMENT, () -> x.setTrunk(3, 3, 2));
        for (int bad : new int[] {-1, 6, LEAST, MOST}) {
            fails("4 lines " + bad, ARGUMENT, () -> x.setTrunk(0, 1, bad));
        }
    }

    private static void promise04Losses() {
        anew();
        x.setTrunk(0, 1, 4);
        same("4 first", 0, x.call(0, 1));
        same("4 second, the other way", 1, x.call(6, 5));
        same("4 aside", 2, x.call(2, 3));
        same("4 third", 3, x.call(10, 11));
        same("4 full but none too many", 0, x.setTrunk(0, 1, 3));
        x.pass(3);
        same("4 two too many", 2, x.setTrunk(1, 0, 1));
        same("4 the highest", 2, x.state(3));
        same("4 the next", 2, x.state(1));
        same("4 the lowest stays", 0, x.state(0));
        same("4 one aside stays", 0, x.state(2));
        same("4 the later one of call 3", 5, x.losses(1));
        same("4 the later one of call 1", 5, x.losses(0));
        same("4 coins", 0, x.coins(0) + x.coins(1));
        same("4 lost", 2, x.lost());
        same("4 free again", -1, x.callOf(6));
        same("4 free again", -1, x.callOf(11));
        same("4 seconds", 3, x.seconds(3));
        x.hangUp(0);
        same("4 ended ones take none", 0, x.setTrunk(0, 1, 0));
    }

    private static void promise04Ways() {
        anew();
        x.setTrunk(0, 1, 1);
        x.port(1, 2);
        x.port(1, 3);
        same("4 a way of three trunks", 0, x.call(0, 1));
        same("4 not by a trunk between carriers of its way", 0, x.setTrunk(0, 3, 0));
        same("4 nor by another one", 0, x.setTrunk(0, 2, 0) + x.setTrunk(3, 1, 0));
        same("4 a call that shares a carrier only", 1, x.call(8, 2));
        same("4 a call that has but one carrier", 2, x.call(6, 11));
        same("4 the call that takes the line", 1, x.setTrunk(0, 1, 0));
        same("4 the call that takes the line", 2, x.state(0));
        same("4 not the others", 0, x.state(1) + x.state(2));
        same("4 the later one of that trunk", 5, x.losses(1));
        same("4 its other lines are free", 2, x.free(1, 2));
        same("4 its other lines are free", 1, x.free(2, 3));
        anew();
        x.port(1, 2);
        x.call(0, 1);
        same("4 the second trunk of a way", 1, x.setTrunk(1, 2, 0));
        x.call(3, 6);
        x.call(0, 11);
        same("4 not a higher one from elsewhere", 1, x.setTrunk(3, 1, 0));
        same("4 the one that takes the line", 2, x.state(1));
        same("4 the one from elsewhere", 0, x.state(2));
    }

    private static void promise05() {
        anew();
        same("5 no debt", 0, x.port(0, 4));
        x.call(0, 4);
        same("5 charged", 10, x.pass(10));
        fails("5 a debt and no bond", STATE, () -> x.port(0, 1));
        x.bond(0, 9);
        fails("5 bond less", STATE, () -> x.port(0, 1));
        x.bond(0, 1);
        same("5 bond not less", 10, x.port(0, 1));
        same("5 new one pays", -10, x.coins(1));
        same("5 to the old one", 10, x.coins(4));
        same("5 the debt stays", 10, x.debt(0));
        same("5 the bond stays", 10, x.bondOf(0));
        same("5 not barred", 0, x.isBarred(0) ? 1 : 0);
        x.pay(0, 10);
        same("5 owed to the new one", 0, x.coins(1));
        fails("5 there", STATE, () -> x.port(0, 1));
        for (int bad : NO_NUMBER) {
            fails("5 number " + bad, INDEX, () -> x.port(bad, 0));
        }
        for (int bad : NO_CARRIER) {
            fails("5 carrier " + bad, INDEX, () -> x.port(0, bad));
        }
        for (int i = 2; i < 60; i++) {
            x.port(1, i % 2 == 0 ? 0 : 1);
        }
        fails("5 60 ports", STATE, () -> x.port(2, 0));
        fails("5 60 ports, no number", INDEX, () -> x.port(12, 0));
    }

    private static void promise06() {
        anew();
        same("6 owner before", 1, x.sell(7, 5));
        same("6 owner before", 5, x.sell(7, 0));
        fails("6 owns it", STATE, () -> x.sell(7, 0));
        fails("6 owns it at first", STATE, () -> x.sell(8, 2));
        for (int bad : NO_NUMBER) {
            fails("6 number " + bad, INDEX, () -> x.sell(bad, 0));
        }
        for (int bad : NO_PERSON) {
            fails("6 person " + bad, INDEX, () -> x.sell(0, bad));
        }
        for (int i = 2; i < 60; i++) {
            x.sell(i % 12, x.ownerOf(i % 12) == 0 ? 1 : 0);
        }
        fails("6 60 were sold", STATE, () -> x.sell(0, 5));
        fails("6 60 were sold, no person", INDEX, () -> x.sell(0, 6));
    }

    private static void promise07() {
        anew();
        same("7 then", 1, x.bond(3, 1));
        same("7 then", 5000, x.bond(3, 4999));
        fails("7 above 5000", STATE, () -> x.bond(3, 1));
        fails("7 above 5000", STATE, () -> x.bond(3, 5000));
        same("7 another", 5000, x.bond(4, 5000));
        for (int bad : NO_NUMBER) {
            fails("7 number " + bad, INDEX, () -> x.bond(bad, 0));
        }
        for (int bad : new int[] {0, -1, 5001, LEAST, MOST}) {
            fails("7 coins " + bad, ARGUMENT, () -> x.bond(3, bad));
        }
        x.call(3, 8);
        passAll(300);
        x.judge(3);
        same("7 what was taken can be added again", 5000, x.bond(3, 300));
    }

    private static void promise08() {
        anew();
        fails("8 no debt", ARGUMENT, () -> x.pay(2, 1));
        x.call(2, 7);
        x.pass(20);
        fails("8 above the debt", ARGUMENT, () -> x.pay(2, 21));
        same("8 debt then", 15, x.pay(2, 5));
        same("8 to the carrier", 5, x.coins(2));
        same("8 all", 0, x.pay(2, 15));
        same("8 to the carrier", 20, x.coins(2));
        same("8 bond untouched", 0, x.bondOf(2));
        for (int bad : NO_NUMBER) {
            fails("8 number " + bad, INDEX, () -> x.pay(bad, 0));
        }
        for (int bad : new int[] {0, -1, 1, LEAST, MOST}) {
            fails("8 coins " + bad, ARGUMENT, () -> x.pay(2, bad));
        }
    }

    private static void promise09() {
        anew();
        fails("9 no debt", STATE, () -> x.judge(1));
        x.call(1, 6);
        x.pass(50);
        x.bond(1, 20);
        same("9 left", 30, x.judge(1));
        same("9 bond is gone", 0, x.bondOf(1));
        same("9 to the carrier", 20, x.coins(1));
        same("9 barred", 1, x.isBarred(1) ? 1 : 0);
        same("9 its call goes on", 0, x.state(0));
        same("9 again", 30, x.judge(1));
        x.bond(1, 100);
        same("9 all", 0, x.judge(1));
        same("9 the rest of the bond", 70, x.bondOf(1));
        same("9 barred no more", 0, x.isBarred(1) ? 1 : 0);
        same("9 to the carrier", 50, x.coins(1));
        fails("9 no debt left", STATE, () -> x.judge(1));
        for (int bad : NO_NUMBER) {
            fails("9 number " + bad, INDEX, () -> x.judge(bad));
        }
    }

    private static void promise10() {
        anew();
        for (int bad : NO_NUMBER) {
            fails("10 number " + bad, INDEX, () -> x.call(bad, 0));
            fails("10 both " + bad, INDEX, () -> x.call(bad, bad));
            fails("10 other " + bad, INDEX, () -> x.call(0, bad));
        }
        fails("10 one and the same", ARGUMENT, () -> x.call(4, 4));
        same("10 call", 0, x.call(0, 1));
        fails("10 one and the same, in a call", ARGUMENT, () -> x.call(0, 0));
        fails("10 caller in a call", STATE, () -> x.call(0, 2));
        fails("10 caller was called", STATE, () -> x.call(1, 2));
        fails("10 other calls", STATE, () -> x.call(2, 0));
        fails("10 other was called", STATE, () -> x.call(2, 1));
        same("10 next call", 1, x.call(2, 3));
        x.pass(1);
        x.hangUp(0);
        x.judge(0);
        fails("10 barred", STATE, () -> x.call(0, 1));
        same("10 a barred one is called", 2, x.call(1, 0));
        x.hangUp(2);
        x.pay(0, 1);
        same("10 barred no more", 3, x.call(0, 1));
        x.setTrunk(3, 4, 0);
        same("10 lost", -1, x.call(8, 9));
        x.hangUp(3);
        for (int i = 4; i < 60; i++) {
            same("10 call", i, x.call(0, 1));
            x.hangUp(i);
        }
        fails("10 60 calls", STATE, () -> x.call(0, 1));
        fails("10 60 calls, one that would be lost", STATE, () -> x.call(8, 9));
        fails("10 60 calls, no number", INDEX, () -> x.call(0, 12));
    }

    private static void promise10Lost() {
        anew();
        x.port(2, 3);
        x.setTrunk(2, 3, 0);
        same("10 lost on the way", -1, x.call(0, 2));
        same("10 the last one pays", 5, x.losses(2));
        same("10 the last one pays", -5, x.coins(2));
        same("10 to the first one", 5, x.coins(0));
        same("10 no lines taken", 2, x.free(0, 2));
        same("10 the numbers are free", -2, x.callOf(0) + x.callOf(2));
        x.setTrunk(0, 2, 0);
        same("10 lost at once", -1, x.call(0, 2));
        same("10 nobody pays", 5, x.losses(2) + x.losses(0) + x.losses(3));
        same("10 two lost", 2, x.lost());
        same("10 none came through", 0, x.calls());
        same("10 numbers of calls are not used up", 0, x.call(0, 1));
    }

    private static void promise11() {
        anew();
        fails("11 no call", INDEX, () -> x.hangUp(0));
        x.call(0, 1);
        x.call(5, 6);
        same("11 no second", 0, x.hangUp(1));
        x.pass(17);
        same("11 seconds", 17, x.hangUp(0));
        fails("11 has ended", STATE, () -> x.hangUp(0));
        for (int bad : new int[] {-1, 2, LEAST, MOST}) {
            fails("11 call " + bad, INDEX, () -> x.hangUp(bad));
        }
        x.call(0, 1);
        x.setTrunk(0, 1, 0);
        fails("11 lost by a trunk", STATE, () -> x.hangUp(2));
        same("11 is free", -1, x.callOf(1));
    }

    private static void promise12() {
        anew();
        for (int bad : new int[] {0, -1, 2001, LEAST, MOST}) {
            fails("12 seconds " + bad, ARGUMENT, () -> x.pass(bad));
        }
        same("12 no calls", 0, x.pass(1));
        x.call(0, 1);
        x.call(7, 3);
        x.setPrices(2, 9, 4);
        same("12 two calls", 4 + 1, x.pass(1));
        same("12 up to the dear hours", 478 * 5, x.pass(478));
        same("12 two dear seconds", 2 * 11, x.pass(2));
        same("12 a long one over both", 718 * 11 + 720 * 5 + 2 * 11, x.pass(1440));
        passAll(20000 - x.second() - 1);
        fails("12 too late", STATE, () -> x.pass(2));
        fails("12 too late", STATE, () -> x.pass(2000));
        fails("12 too late and too many", ARGUMENT, () -> x.pass(2001));
        same("12 the last one, cheap again", 5, x.pass(1));
        same("12 the last second", 20000, x.second());
        fails("12 no more", STATE, () -> x.pass(1));
    }

    private static void promise13And14() {
        anew();
        int[] turns = {480, 720, 720, 720};
        for (int i = 0; i < turns.length; i++) {
            x.pass(turns[i] - 1);
            same("14 before a turn", i % 2, x.isDear() ? 1 : 0);
            x.pass(1);
            same("14 at a turn", 1 - i % 2, x.isDear() ? 1 : 0);
        }
        same("13 second", 2640, x.second());
    }

    private static void promise15And16() {
        anew();
        x.pass(10);
        x.port(6, 4);
        same("15 at once", 4, x.carrierOf(6));
        same("16 now", 4, x.carrierThen(6, 10));
        same("16 before", 1, x.carrierThen(6, 9));
        x.port(6, 3);
        same("16 the latest in a second", 3, x.carrierThen(6, 10));
        x.pass(5);
        x.port(6, 0);
        x.port(7, 0);
        same("16 between", 3, x.carrierThen(6, 14));
        same("16 others", 2, x.carrierThen(7, 14));
        same("16 now", 0, x.carrierThen(6, 15));
        same("16 first", 1, x.carrierThen(6, 0));
        for (int bad : new int[] {-1, 16, LEAST, MOST}) {
            fails("16 second " + bad, ARGUMENT, () -> x.carrierThen(6, bad));
        }
        for (int bad : NO_NUMBER) {
            fails("15 number " + bad, INDEX, () -> x.carrierOf(bad));
            fails("16 number " + bad, INDEX, () -> x.carrierThen(bad, 99));
        }
    }

    private static void promise17() {
        anew();
        x.sell(11, 0);
        same("17 owner", 0, x.ownerOf(11));
        same("17 owner of another", 4, x.ownerOf(10));
        for (int bad : NO_NUMBER) {
            fails("17 number " + bad, INDEX, () -> x.ownerOf(bad));
        }
    }

    private static void promise18() {
        anew();
        same("18 at first", 1, x.believed(3, 11));
        x.setDelay(2, 0);
        x.port(11, 4);
        same("18 the old one", 4, x.believed(1, 11));
        same("18 the new one", 4, x.believed(4, 11));
        same("18 without delay", 4, x.believed(2, 11));
        same("18 not yet", 1, x.believed(0, 11));
        x.pass(99);
        same("18 not yet", 1, x.believed(0, 11));
        x.setDelay(0, 0);
        x.port(11, 2);
        same("18 the later news first", 2, x.believed(0, 11));
        x.pass(1);
        same("18 the latest port, not the latest news", 2, x.believed(0, 11));
        same("18 the earlier news", 4, x.believed(3, 11));
        same("18 another number", 1, x.believed(0, 6));
        for (int bad : NO_CARRIER) {
            fails("18 carrier " + bad, INDEX, () -> x.believed(bad, 0));
        }
        for (int bad : NO_NUMBER) {
            fails("18 number " + bad, INDEX, () -> x.believed(0, bad));
        }
    }

    private static void promise19And20() {
        anew();
        x.call(0, 1);
        x.pass(30);
        same("19 the caller's", 30, x.debt(0));
        same("19 not the other's", 0, x.debt(1));
        x.bond(0, 10);
        x.judge(0);
        x.pay(0, 5);
        same("19 kept", 15, x.debt(0));
        same("20 anew", 15, x.debtAnew(0));
        x.hangUp(0);
        x.call(5, 0);
        x.pass(3);
        x.hangUp(1);
        x.pay(0, 15);
        x.call(0, 5);
        x.pass(2);
        same("19 over two calls", 2, x.debt(0));
        same("20 over two calls", 2, x.debtAnew(0));
        same("20 another", 3, x.debtAnew(5));
        for (int bad : NO_NUMBER) {
            fails("19 number " + bad, INDEX, () -> x.debt(bad));
            fails("20 number " + bad, INDEX, () -> x.debtAnew(bad));
        }
    }

    private static void promise21And22() {
        anew();
        x.bond(9, 30);
        same("21 bond", 30, x.bondOf(9));
        same("21 another", 0, x.bondOf(8));
        x.call(9, 4);
        x.pass(40);
        same("22 not barred by a debt", 0, x.isBarred(9) ? 1 : 0);
        x.judge(9);
        same("21 taken", 0, x.bondOf(9));
        same("22 barred", 1, x.isBarred(9) ? 1 : 0);
        same("22 another", 0, x.isBarred(4) ? 1 : 0);
        x.pay(9, 9);
        same("22 still barred", 1, x.isBarred(9) ? 1 : 0);
        x.bond(9, 1);
        x.port(9, 3);
        same("22 barred when carried", 1, x.isBarred(9) ? 1 : 0);
        x.pay(9, 1);
        same("22 barred no more", 0, x.isBarred(9) ? 1 : 0);
        for (int bad : NO_NUMBER) {
            fails("21 number " + bad, INDEX, () -> x.bondOf(bad));
            fails("22 number " + bad, INDEX, () -> x.isBarred(bad) ? 1 : 0);
        }
    }

    private static void promise23() {
        anew();
        x.call(3, 4);
        x.call(0, 1);
        same("23 caller", 1, x.callOf(0));
        same("23 other", 1, x.callOf(1));
        same("23 first", 0, x.callOf(4));
        same("23 none", -1, x.callOf(2));
        x.hangUp(1);
        same("23 ended", -1, x.callOf(0));
        same("23 ended", -1, x.callOf(1));
        for (int bad : NO_NUMBER) {
            fails("23 number " + bad, INDEX, () -> x.callOf(bad));
        }
    }

    private static void promise24() {
        anew();
        x.setTrunk(0, 1, 3);
        x.call(0, 1);
        x.call(6, 5);
        same("24 free", 1, x.free(0, 1));
        same("24 from the other end", 1, x.free(1, 0));
        x.hangUp(0);
        same("24 free again", 2, x.free(0, 1));
        same("24 one and the same", 0, x.free(4, 4));
        x.port(7, 4);
        x.call(1, 7);
        same("24 each trunk on the way", 1, x.free(2, 4));
        same("24 each trunk on the way", 1, x.free(1, 2));
        same("24 not on the way", 2, x.free(1, 4));
        x.hangUp(2);
        same("24 all free again", 4, x.free(2, 4) + x.free(2, 1));
        for (int bad : NO_CARRIER) {
            fails("24 carrier " + bad, INDEX, () -> x.free(bad, 0));
            fails("24 other " + bad, INDEX, () -> x.free(0, bad));
            fails("24 both " + bad, INDEX, () -> x.free(bad, bad));
        }
    }

    private static void promise25() {
        anew();
        same("25 one trunk", 1, x.route(0, 1));
        same("25 no trunk", 0, x.route(0, 5));
        x.setTrunk(0, 1, 1);
        x.call(0, 1);
        same("25 in calls, no line", -1, x.route(0, 1));
        same("25 none is lost by it", 0, x.lost());
        x.hangUp(0);
        x.port(1, 2);
        x.port(1, 3);
        x.port(1, 4);
        same("25 after the news", 4, x.route(0, 1));
        x.setTrunk(3, 4, 0);
        same("25 lost on the way", -1, x.route(0, 1));
        same("25 nobody pays", 0, x.losses(3));
        same("25 from where it is", 0, x.route(9, 1));
        for (int bad : NO_NUMBER) {
            fails("25 number " + bad, INDEX, () -> x.route(bad, 0));
            fails("25 both " + bad, INDEX, () -> x.route(bad, bad));
            fails("25 other " + bad, INDEX, () -> x.route(0, bad));
        }
        fails("25 one and the same", ARGUMENT, () -> x.route(3, 3));
    }

    private static void promise26To28() {
        anew();
        x.call(0, 1);
        x.call(2, 3);
        x.hangUp(0);
        x.setTrunk(2, 3, 0);
        same("27 lost by a trunk", 1, x.lost());
        x.call(2, 3);
        x.call(5, 0);
        same("26 came through", 3, x.calls());
        same("27 lost", 2, x.lost());
        same("28 ended", 1, x.state(0));
        same("28 lost by a trunk", 2, x.state(1));
        same("28 goes on", 0, x.state(2));
        for (int bad : new int[] {-1, 3, LEAST, MOST}) {
            fails("28 call " + bad, INDEX, () -> x.state(bad));
        }
    }

    private static void promise29And30() {
        anew();
        x.port(0, 3);
        x.port(0, 4);
        x.call(1, 0);
        int[] way = {1, 0, 3, 4};
        x.call(2, 7);
        x.hangUp(0);
        x.pass(200);
        same("29 trunks", 3, x.trunks(0));
        for (int i = 0; i < way.length; i++) {
            same("30 place " + i, way[i], x.carrierAt(0, i));
        }
        same("29 no trunks", 0, x.trunks(1));
        same("30 first", 2, x.carrierAt(1, 0));
        for (int bad : new int[] {-1, 4, LEAST, MOST}) {
            fails("29 call " + bad, INDEX, () -> x.trunks(bad));
            fails("30 call " + bad, INDEX, () -> x.carrierAt(bad, 0));
            fails("30 place " + bad, INDEX, () -> x.carrierAt(0, bad));
        }
        fails("30 place 1 of one", INDEX, () -> x.carrierAt(1, 1));
    }

    private static void promise31() {
        anew();
        x.pass(5);
        x.call(0, 1);
        same("31 none yet", 0, x.seconds(0));
        x.pass(8);
        same("31 goes on", 8, x.seconds(0));
        x.call(2, 3);
        x.pass(2);
        x.hangUp(0);
        x.setTrunk(2, 3, 0);
        x.pass(9);
        same("31 ended", 10, x.seconds(0));
        same("31 lost by a trunk", 2, x.seconds(1));
        for (int bad : new int[] {-1, 2, LEAST, MOST}) {
            fails("31 call " + bad, INDEX, () -> x.seconds(bad));
        }
    }

    private static void promise32And33() {
        anew();
        x.call(0, 1);
        x.pass(10);
        x.setPrices(0, 0, 5);
        x.setPrices(1, 9, 9);
        x.pass(10);
        x.bond(0, 5000);
        x.port(0, 2);
        x.port(0, 3);
        x.setPrices(3, 4, 7);
        x.setPrices(3, 3, 6);
        x.pass(460);
        x.pass(10);
        same("32 charged", 10 + 50 + 460 * 6 + 30, x.charged(0));
        same("33 anew", 10 + 50 + 460 * 6 + 30, x.chargedAnew(0));
        x.hangUp(0);
        x.setPrices(3, 9, 9);
        x.pass(5);
        same("32 ended", 2850, x.charged(0));
        same("33 ended", 2850, x.chargedAnew(0));
        for (int bad : new int[] {-1, 1, LEAST, MOST}) {
            fails("32 call " + bad, INDEX, () -> x.charged(bad));
            fails("33 call " + bad, INDEX, () -> x.chargedAnew(bad));
        }
    }

    /** As many pieces as a call can have: each change of the 180 in a second of its own. */
    private static void promise33ManyChanges() {
        anew();
        x.bond(0, 5000);
        x.call(0, 1);
        for (int i = 0; i < 60; i++) {
            x.pass(1);
            x.port(0, i % 2 == 0 ? 4 : 0);
            x.pass(1);
            x.sell(0, i % 2 == 0 ? 5 : 0);
            x.pass(1);
            x.setPrices(i % 2 == 0 ? 4 : 0, 9, 1 + i % 7);
        }
        x.pass(3);
        same("33 many changes", x.charged(0), x.chargedAnew(0));
        same("20 many changes", x.debt(0), x.debtAnew(0));
        for (int i = 0; i < 5; i++) {
            same("36 many changes " + i, x.earned(i), x.earnedAnew(i));
            same("38 many changes " + i, x.spent(i), x.spentAnew(i));
        }
        same("38 many changes", x.spent(5), x.spentAnew(5));
    }

    private static void promise34() {
        anew();
        x.call(0, 1);
        x.pass(10);
        same("34 charged is not paid", 0, x.coins(0));
        x.pay(0, 4);
        same("34 paid", 4, x.coins(0));
        x.bond(0, 6);
        x.port(0, 2);
        same("34 the debt was paid", 10, x.coins(0));
        same("34 below 0", -6, x.coins(2));
        x.setTrunk(0, 1, 0);
        same("34 the later one paid", -5, x.coins(1));
        same("34 the other one got it", 15, x.coins(0));
        for (int bad : NO_CARRIER) {
            fails("34 carrier " + bad, INDEX, () -> x.coins(bad));
        }
    }

    private static void promise35And36() {
        anew();
        x.call(0, 1);
        x.call(2, 3);
        x.pass(10);
        x.bond(0, 100);
        x.port(0, 2);
        x.pass(5);
        x.pay(2, 15);
        int[] want = {10, 0, 20, 0, 0};
        for (int c = 0; c < 5; c++) {
            same("35 earned " + c, want[c], x.earned(c));
            same("36 anew " + c, want[c], x.earnedAnew(c));
        }
        for (int bad : NO_CARRIER) {
            fails("35 carrier " + bad, INDEX, () -> x.earned(bad));
            fails("36 carrier " + bad, INDEX, () -> x.earnedAnew(bad));
        }
    }

    private static void promise37And38() {
        anew();
        x.call(0, 7);
        x.call(6, 2);
        x.pass(10);
        x.sell(0, 3);
        x.sell(0, 4);
        x.sell(7, 2);
        x.pass(5);
        x.pay(0, 15);
        int[] want = {25, 0, 0, 0, 5, 0};
        for (int p = 0; p < 6; p++) {
            same("37 spent " + p, want[p], x.spent(p));
            same("38 anew " + p, want[p], x.spentAnew(p));
        }
        for (int bad : NO_PERSON) {
            fails("37 person " + bad, INDEX, () -> x.spent(bad));
            fails("38 person " + bad, INDEX, () -> x.spentAnew(bad));
        }
    }

    private static void promise39() {
        anew();
        x.port(1, 4);
        x.setTrunk(1, 4, 1);
        same("39 came through", 0, x.call(0, 1));
        x.port(6, 4);
        same("39 lost on the way", -1, x.call(5, 6));
        same("39 the last one", 5, x.losses(1));
        x.setTrunk(4, 1, 0);
        same("39 the later one of the trunk", 5, x.losses(4));
        same("39 not the first one", 0, x.losses(0));
        same("39 got and paid", 0, x.coins(1));
        for (int bad : NO_CARRIER) {
            fails("39 carrier " + bad, INDEX, () -> x.losses(bad));
        }
    }

    private static void failuresChangeNothing() {
        anew();
        tell();
        String want = looks();
        anew();
        tell();
        int[][] wrong = {{-1, 0, 0}, {0, -1, 0}, {0, 0, -1}, {12, 5, 6}, {0, 0, 0}, {1, 1, 1}};
        for (int[] w : wrong) {
            Check.outcome(() -> x.setPrices(w[0] + 6, w[1], w[2]));
            Check.outcome(() -> x.setPrices(0, w[1] + 10, w[2]));
            Check.outcome(() -> x.setDelay(w[0] + 6, 7));
            Check.outcome(() -> x.setTrunk(w[0], w[0], 0));
            Check.outcome(() -> x.sell(w[0] + 13, 0));
            Check.outcome(() -> x.pay(w[0], 0));
            Check.outcome(() -> x.hangUp(w[0] + 6));
            Check.outcome(() -> x.pass(0));
        }
        fails("changes nothing: barred", STATE, () -> x.call(0, 5));
        fails("changes nothing: in a call", STATE, () -> x.call(2, 8));
        fails("changes nothing: a debt", STATE, () -> x.port(0, 1));
        fails("changes nothing: owns it", STATE, () -> x.sell(0, 3));
        fails("changes nothing: the bond", STATE, () -> x.bond(2, 5000));
        fails("changes nothing: has ended", STATE, () -> x.hangUp(0));
        check.same("changes nothing", want, looks());
    }

    private static void tell() {
        x.call(0, 1);
        x.sell(0, 3);
        x.port(0, 4);
        x.pass(40);
        x.hangUp(0);
        x.judge(0);
        x.call(2, 3);
        x.bond(2, 30);
        x.pass(7);
        x.port(2, 1);
    }

    private static String looks() {
        StringBuilder all = new StringBuilder();
        all.append(x.second()).append(' ').append(x.calls()).append(' ').append(x.lost());
        for (int n = 0; n < 12; n++) {
            all.append('\n').append(x.carrierOf(n)).append(' ').append(x.ownerOf(n));
            all.append(' ').append(x.debt(n)).append(' ').append(x.debtAnew(n));
            all.append(' ').append(x.bondOf(n)).append(' ').append(x.isBarred(n));
            all.append(' ').append(x.callOf(n)).append(' ').append(x.route(n, (n + 1) % 12));
        }
        for (int c = 0; c < 5; c++) {
            all.append('\n').append(x.coins(c)).append(' ').append(x.earned(c));
            all.append(' ').append(x.earnedAnew(c)).append(' ').append(x.losses(c));
            for (int d = 0; d < 5; d++) {
                all.append(' ').append(x.free(c, d)).append(' ').append(x.believed(c, 2 * d));
            }
        }
        for (int p = 0; p < 6; p++) {
            all.append('\n').append(x.spent(p)).append(' ').append(x.spentAnew(p));
        }
        for (int k = 0; k < x.calls(); k++) {
            all.append('\n').append(x.state(k)).append(' ').append(x.seconds(k));
            all.append(' ').append(x.charged(k)).append(' ').append(x.chargedAnew(k));
        }
        return all.toString();
    }
}
