/** Promises 38 to 42 and 44: dig, last, meet, gauge, plan, known. */
public final class DiggingTest {
    public static void main(String[] args) {
        days();
        digging();
        stops();
        last();
        meet();
        gauge();
        gaugeOfMany();
        cheapest();
        cheapestRefusals();
        firstEight();
        cheapestOfMany();
        known();
        knownAfterUndo();
        Check.end();
    }

    private static void days() {
        LinesPromised x = new LinesPromised();
        Check.due("none", x.dig(0), -2);
        Check.due("too many", x.dig(51), -2);
        Check.due("dig", x.dig(-1), -2);
        for (int i = 1; i < 20; i++) Check.due("dig", x.dig(50), 50 * i);
        Check.due("beyond", x.dig(50), -2);
        Check.due("to the end", x.dig(49), 999);
        Check.due("beyond", x.dig(1), -2);
        Check.due("today", x.count(3), 999);
        Check.due("an order from the last day on", x.text(1000), -2);
    }

    /** Four bills of 30, 20, 30, 20 yards with 100 coins for each scheme. */
    private static LinesPromised funded() {
        LinesPromised x = Check.fourBills();
        x.coin(0, 400);
        for (int i = 0; i < 4; i++) Check.due("lend", x.lend(i, 0, 100), 12 + i);
        return x;
    }

    private static void digging() {
        LinesPromised x = funded();
        x.grant(9);
        x.grant(8);
        x.man(4);
        Check.due("dig", x.dig(1), 1);
        Check.due("by numbers, not as granted", x.last(8, 0), 18);
        Check.due("nothing for the next", x.last(9, 0), 20);
        Check.due("two coins a yard", x.purse(1, 0), 76);
        x.dig(2);
        Check.due("done", x.last(8, 0), 0);
        Check.due("done on day 2", x.last(8, 1), 2);
        Check.due("what is over goes to the next", x.last(9, 0), 14);
        Check.due("it isn't done", x.last(9, 1), -5);
        Check.due("count", x.count(7), 1);
        x.man(0);
        x.dig(5);
        Check.due("nobody digs", x.last(9, 0), 14);
        x.man(99);
        x.dig(1);
        Check.due("done on day 8", x.last(9, 1), 8);
        Check.due("no more is paid", x.purse(1, 1), 60);
        Check.due("done stays", x.last(8, 1), 2);
        Check.due("count", x.count(7), 2);
        Check.due("not granted ones are not dug", x.purse(1, 2), 100);
    }

    private static void stops() {
        LinesPromised x = Check.fourBills();
        x.coin(0, 400);
        x.lend(0, 0, 11);
        x.lend(1, 0, 100);
        x.lend(2, 0, 60);
        for (int i = 8; i < 11; i++) x.grant(i);
        x.man(9);
        x.dig(1);
        Check.due("five yards for eleven coins", x.last(8, 0), 25);
        Check.due("one coin is over", x.purse(1, 0), 1);
        Check.due("the others go on", x.last(9, 0), 0);
        Check.due("the others go on", x.last(10, 0), 28);
        x.lend(0, 0, 3);
        x.dig(1);
        Check.due("it goes on with coins", x.last(8, 0), 23);
        Check.due("settle: three fell", x.settle() >> 8, 1 + 2 + 4);
        x.scrip(3, 1, 1);
        x.coin(1, 90);
        int was = x.last(10, 0);
        Check.due("coins are left", x.purse(1, 2) >= 0 ? 1 : 0, 1);
        x.dig(1);
        Check.due("a fallen one stops", x.last(10, 0), was);
    }

    private static void last() {
        LinesPromised x = funded();
        Check.due("not granted", x.last(8, 0), -3);
        Check.due("no what", x.last(8, 2), -1);
        Check.due("no what", x.last(8, -1), -1);
        Check.due("no bill", x.last(4, 0), -1);
        Check.due("no bill", x.last(99, 0), -1);
        x.land(1, 1, 1);
        x.grant(8);
        Check.due("as it was granted", x.last(8, 0), 50);
        x.land(1, 1, 0);
        Check.due("as it was granted", x.last(8, 0), 50);
        Check.due("not done", x.last(8, 1), -5);
    }

    private static void meet() {
        LinesPromised x = funded();
        for (int i = 8; i < 11; i++) x.grant(i);
        x.man(10);
        Check.due("none", x.meet(), 0);
        x.dig(1);
        Check.due("one done", x.meet(), 0);
        x.dig(1);
        Check.due("towns 0, 1 by gauge 0 and 1, 2 by gauge 1", x.meet(), 2);
        x.dig(1);
        Check.due("and 2, 3 by gauge 0", x.meet(), 6);
        x.grant(11);
        Check.due("not done", x.meet(), 6);
        x.dig(1);
        Check.due("all round", x.meet(), 15);
        LinesPromised y = Check.fourTowns();
        y.coin(0, 999);
        y.scheme(0, 1, 0, 1);
        y.scheme(0, 3, 0, 1);
        for (int i = 0; i < 2; i++) y.lend(i, 0, 400);
        Check.plan(y, 0, 0, 1, 2, 3);
        Check.plan(y, 1, 0, 10, 20);
        y.bill(4);
        y.bill(5);
        y.grant(6);
        y.grant(7);
        y.man(99);
        y.dig(1);
        Check.due("both done", y.count(7), 2);
        Check.due("one gauge", y.meet(), 0);
    }

    private static void gauge() {
        LinesPromised x = Check.fourBills();
        Check.due("bits", x.gauge(-1), -2);
        Check.due("bits", x.gauge(16), -2);
        Check.due("no town", x.gauge(0), 0);
        Check.due("one town", x.gauge(8), 0);
        Check.due("no lines", x.gauge(3), -5);
        x.grant(9);
        x.grant(8);
        x.grant(10);
        // lines by numbers: 0 - 1 of gauge 0, 1 - 2 of gauge 1, 2 - 3 of gauge 0
        Check.due("joined", x.gauge(3), 0);
        Check.due("joined", x.gauge(6), 0);
        Check.due("least as bits", x.gauge(7), 1);
        Check.due("least as bits", x.gauge(14), 2);
        Check.due("the middle", x.gauge(15), 2);
        Check.due("the middle", x.gauge(9), 2);
        x.grant(11);
        Check.due("round the other way", x.gauge(9), 0);
        Check.due("any two of four", x.gauge(15), 1);
        LinesPromised y = new LinesPromised();
        y.town(0, 0);
        y.town(1, 0);
        Check.due("bits of no towns", y.gauge(4), -2);
        Check.due("all bits", y.gauge(3), -5);
    }

    private static void gaugeOfMany() {
        LinesPromised x = Check.fourTowns();
        x.scheme(0, 1, 0, 1);
        x.scheme(1, 2, 1, 1);
        for (int i = 0; i < 10; i++) {
            Check.plan(x, 0, 0, 1, 2, 3);
            x.bill(2 + 2 * i);
            x.grant(3 + 2 * i);
        }
        Check.due("ten", x.count(6), 10);
        Check.due("ten are not too many", x.gauge(3), 0);
        Check.plan(x, 1, 3, 13, 23);
        x.bill(22);
        Check.due("not granted", x.gauge(7), -5);
        x.grant(23);
        Check.due("too many", x.gauge(3), -9);
        Check.due("too many ahead of one town", x.gauge(1), -9);
        Check.due("bits ahead of too many", x.gauge(16), -2);
    }

    private static void cheapest() {
        LinesPromised x = Check.fourBills();
        // lines 30, 20, 30, 20 yards round 0, 1, 2, 3
        Check.due("one town", x.plan(4, 0, 0, 0), 0);
        Check.due("no coins", x.plan(4, 0, 0, 1), 0);
        Check.due("no town", x.plan(0, 0, 0, 1), 0);
        Check.due("set", x.plan(3, 999, 999, 0), 1);
        Check.due("coins", x.plan(3, 999, 999, 1), 60);
        Check.due("of any gauge; least as bits", x.plan(15, 999, 999, 0), 11);
        Check.due("coins", x.plan(15, 999, 999, 1), 140);
        Check.due("just enough", x.plan(15, 70, 140, 0), 11);
        Check.due("yards", x.plan(15, 69, 140, 0), -5);
        Check.due("coins", x.plan(15, 70, 139, 1), -5);
        x.claim(2, 25);
        x.claim(13, 5);
        x.claim(3, 1);
        x.claim(20, 50);
        // lines of 30 + 26, 20 + 6, 30 + 50, 20 + 50: 86, 46, 110, 90 coins
        Check.due("claims", x.plan(3, 999, 999, 1), 86);
        Check.due("each bill's by themselves", x.plan(12, 999, 999, 1), 110);
        Check.due("three of four", x.plan(15, 999, 999, 1), 86 + 46 + 90);
        x.bar(9, 11);
        Check.due("two that bar", x.plan(15, 999, 999, 0), 7);
        Check.due("two that bar", x.plan(15, 999, 999, 1), 86 + 46 + 110);
        x.bar(8, 9);
        Check.due("more that bar", x.plan(15, 999, 999, 0), 13);
        x.grant(10);
        Check.due("a granted one joins nothing", x.plan(15, 999, 999, 0), -5);
        Check.due("places among those left", x.plan(9, 999, 999, 0), 4);
        Check.order(x, "let g=1", 0, 0);
        Check.due("that can be let today", x.plan(9, 999, 999, 0), 2);
        Check.order(x, "let g=0", 1, 1);
        Check.due("not tomorrow", x.plan(9, 999, 999, 0), 2);
        x.dig(1);
        Check.due("but today", x.plan(9, 999, 999, 0), -5);
    }

    private static void cheapestRefusals() {
        LinesPromised x = Check.fourBills();
        Check.due("no what", x.plan(3, 1, 1, 2), -1);
        Check.due("no what", x.plan(-1, -1, -1, -1), -1);
        Check.due("bits", x.plan(-1, 1, 1, 0), -2);
        Check.due("bits", x.plan(16, 1, 1, 0), -2);
        Check.due("yards", x.plan(3, -1, 1, 0), -2);
        Check.due("yards", x.plan(3, 100000, 1, 0), -2);
        Check.due("coins", x.plan(3, 1, -1, 0), -2);
        Check.due("coins", x.plan(3, 1, 1000000, 0), -2);
        Check.due("at most", x.plan(15, 99999, 999999, 1), 140);
    }

    private static void firstEight() {
        LinesPromised x = Check.fourTowns();
        x.scheme(0, 1, 0, 1);
        x.scheme(1, 2, 1, 1);
        for (int i = 0; i < 8; i++) {
            Check.plan(x, 0, 0, 1, 2, 3);
            x.bill(2 + 2 * i);
        }
        Check.plan(x, 1, 3, 13, 23);
        x.bill(18);
        Check.due("the ninth does not count", x.plan(6, 999, 9999, 0), -5);
        x.grant(3);
        Check.due("now it is the eighth", x.plan(6, 999, 9999, 0), 128);
        Check.due("of like ones the least as bits", x.plan(3, 999, 9999, 0), 1);
    }

    private static void cheapestOfMany() {
        LinesPromised x = Check.fourBills();
        x.scheme(0, 2, 0, 1);
        Check.plan(x, 12, 0, 10, 20, 21, 22, 23);
        Check.due("a fifth bill, straight from 0 to 2", x.bill(13), 14);
        Check.due("of like coins the fewest", x.plan(5, 999, 999, 0), 16);
        x.land(22, 0, 1);
        Check.due("not the fewest of more coins", x.plan(5, 999, 999, 0), 3);
        x.land(22, 0, 0);
        x.bar(8, 9);
        x.bar(8, 14);
        x.bar(9, 14);
        x.bar(9, 10);
        Check.due("round", x.plan(15, 999, 999, 0), 8 + 4 + 1);
        x.claim(13, 1);
        Check.order(x, "let c<1", 0, 0);
        Check.due("without the second; who bars is looked at anew", x.plan(15, 999, 999, 0), 4 + 2 + 1);
    }

    private static void known() {
        LinesPromised x = Check.fourBills();
        x.coin(0, 400);
        x.lend(0, 0, 100);
        x.man(2);
        Check.due("a day to come", x.known(0, 0), -1);
        x.dig(1);
        x.grant(8);
        x.dig(2);
        x.lend(0, 0, 50);
        x.scheme(0, 2, 0, 9);
        x.dig(1);
        int[] coins = {100, 88, 76, 114};
        int[] left = {-1, 24, 18, 12};
        for (int day = 0; day < 4; day++) {
            Check.due("coins behind a day", x.known(0, day), coins[day]);
            Check.due("yards behind a day", x.known(8, day), left[day]);
            Check.due("never granted", x.known(9, day), -1);
            Check.due("a plan", x.known(4, day), -1);
            Check.due("a loan", x.known(12, day), -1);
            Check.due("a scheme that came late", x.known(14, day), day < 3 ? -1 : 0);
        }
        Check.due("a day to come", x.known(0, 4), -1);
        Check.due("no day", x.known(0, -1), -1);
        Check.due("no day", x.known(0, 1000), -1);
        Check.due("no paper", x.known(15, 0), -1);
        Check.due("no paper", x.known(-1, 0), -1);
        Check.due("no paper", x.known(60, 0), -1);
    }

    private static void knownAfterUndo() {
        LinesPromised x = Check.fourBills();
        x.coin(0, 400);
        x.lend(0, 0, 100);
        x.grant(8);
        x.man(1);
        x.dig(2);
        x.image();
        x.dig(3);
        Check.due("behind day 4", x.known(8, 4), 15);
        x.undo();
        Check.due("days behind the image are not by", x.known(8, 2), -1);
        Check.due("days ahead of it are", x.known(8, 1), 24);
        x.man(2);
        x.dig(2);
        Check.due("as it went then", x.known(8, 3), 12);
        Check.due("as it went then", x.known(0, 3), 100 - 36);
        Check.due("ahead of the image", x.known(0, 0), 94);
    }
}
