/** The sentences of term 7 on digging and gauges and of promises 38 to 42, each with a test of its own. */
final class SaysDigging {
    private SaysDigging() {
    }

    static void all() {
        men();
        aDay();
        threeForEach();
        twoCoins();
        stops();
        doneOnADay();
        meeting();
        relaid();
        leastRelaid();
        oneTownOrNone();
        grantOfThose();
        grantWithin();
        grantOfLeast();
        dig();
        last();
        meet();
        gauge();
        plan();
    }

    /** Bills 8 .. 11 of 30, 20, 30, 20 yards; all schemes have a hundred coins. */
    private static LinesPromised funded() {
        LinesPromised x = Check.fourBills();
        x.coin(7, 400);
        for (int i = 0; i < 4; i++) Check.due("lend", x.lend(i, 7, 100), 12 + i);
        return x;
    }

    private static LinesPromised granted(int... bills) {
        LinesPromised x = funded();
        for (int i = 0; i < bills.length; i++) Check.due("grant", x.grant(bills[i]), i + 1);
        return x;
    }

    private static void left(LinesPromised x, String what, int... due) {
        for (int i = 0; i < due.length; i++) Check.due(what + ": yards left of " + (8 + i), x.last(8 + i, 0), due[i]);
    }

    private static void men() {
        Says.term(7, "DIGGING: MEN (0 .. 99; 0 at first).");
        Check.range("men", LinesPromised::new, (x, n) -> x.man(n), 0, 99, -2);
        Check.due("0 at first", new LinesPromised().count(5), 0);
        LinesPromised x = granted(8);
        x.dig(50);
        Check.due("nobody digs", x.last(8, 0), 30);
        Check.due("nothing is paid", x.purse(1, 0), 100);
    }

    private static void aDay() {
        Says.term(7, "A DAY goes by (TODAY, which is 1 more then):");
        LinesPromised x = granted(8);
        x.man(1);
        for (int day = 1; day <= 10; day++) {
            Check.due("one more", x.dig(1), day);
            Check.due("today", x.count(3), day);
            Check.due("so much is dug", x.last(8, 0), 30 - 3 * day);
        }
        Check.due("on day 9 the last of it", x.last(8, 1), 9);
    }

    private static void threeForEach() {
        Says.term(7, "YARDS left of GRANTED BILLS, by numbers, are dug: 3 for each of the MEN in all,");
        for (int men = 0; men < 40; men++) {
            LinesPromised x = granted(11, 9, 8, 10);
            x.man(men);
            x.dig(1);
            int all = Math.min(100, 3 * men);
            int[] yards = {30, 20, 30, 20};
            for (int i = 0; i < 4; i++) {
                int dug = Math.min(all, yards[i]);
                all -= dug;
                Check.due(men + " men, bill " + (8 + i), x.last(8 + i, 0), yards[i] - dug);
            }
        }
        LinesPromised y = granted(10);
        y.man(99);
        y.dig(1);
        Check.due("what isn't granted isn't dug", y.purse(1, 0), 100);
        Check.due("it is", y.last(10, 0), 0);
        LinesPromised z = granted(8, 9);
        z.man(12);
        z.dig(1);
        left(z, "done ones take no men", 0, 14);
        z.man(2);
        z.dig(1);
        left(z, "done ones take no men", 0, 8);
    }

    private static void twoCoins() {
        Says.term(7, "each YARD costs its SCHEME 2 COINS;");
        LinesPromised x = granted(8, 9);
        x.man(1);
        x.dig(3);
        Check.due("nine yards", x.purse(1, 0), 82);
        Check.due("none of the other's", x.purse(1, 1), 100);
        Check.due("no holder pays", x.purse(0, 7), 0);
        x.man(99);
        x.dig(2);
        Check.due("all thirty", x.purse(1, 0), 40);
        Check.due("and twenty", x.purse(1, 1), 60);
    }

    private static void stops() {
        Says.term(7, "a line whose SCHEME has not the COINS for one more STOPS for that DAY (the others go on),");
        for (int coins = 0; coins <= 6; coins++) {
            LinesPromised x = Check.fourBills();
            x.coin(7, 200);
            if (coins > 0) x.lend(0, 7, coins);
            x.lend(1, 7, 100);
            x.grant(8);
            x.grant(9);
            x.man(4);
            x.dig(1);
            Check.due("it has " + coins, x.last(8, 0), 30 - coins / 2);
            Check.due("an odd coin is over", x.purse(1, 0), coins % 2);
            Check.due("the others go on", x.last(9, 0), 20 - (12 - coins / 2));
            x.lend(0, 7, 2);
            x.dig(1);
            Check.due("another day it goes on", x.last(8, 0), 30 - coins / 2 - 1);
        }
        LinesPromised y = Check.fourSchemes();
        Check.plan(y, 0, 0, 1, 2, 3);
        Check.plan(y, 0, 0, 1, 2, 3);
        y.bill(4);
        y.bill(5);
        y.grant(6);
        y.grant(7);
        y.coin(0, 70);
        y.lend(0, 0, 70);
        y.man(99);
        y.dig(1);
        Check.due("two of one scheme: the first", y.last(6, 0), 0);
        Check.due("two of one scheme: the second has what is over", y.last(7, 0), 25);
        Says.term(7, "one that is FALLEN, too.");
        LinesPromised w = Check.fourBills();
        w.coin(7, 400);
        for (int h = 0; h < 3; h++) {
            w.coin(h, 2);
            w.lend(0, h, 2);
        }
        w.lend(1, 7, 100);
        w.grant(8);
        w.man(1);
        w.dig(1);
        w.coin(3, 4);
        w.lend(0, 3, 2);
        Check.due("2 of 8 owed, cut to none", w.settle(), 1 << 8);
        w.grant(9);
        w.lend(1, 7, 100);
        w.dig(1);
        Check.due("though it has coins for one more", w.purse(1, 0), 2);
        Check.due("it stops", w.last(8, 0), 27);
        Check.due("the others go on", w.last(9, 0), 17);
    }

    private static void doneOnADay() {
        Says.term(7, "A line is DONE on the DAY on which the last of its YARDS is dug.");
        LinesPromised x = granted(8, 9);
        x.man(10);
        x.dig(1);
        Check.due("all at once", x.last(8, 1), 0);
        Check.due("not yet", x.last(9, 1), -5);
        x.man(6);
        x.dig(1);
        Check.due("two yards are left", x.last(9, 0), 2);
        Check.due("not yet", x.last(9, 1), -5);
        x.man(0);
        x.dig(5);
        Check.due("not yet", x.last(9, 1), -5);
        x.man(1);
        x.dig(3);
        Check.due("on day 7", x.last(9, 1), 7);
        Check.due("once for all", x.last(8, 1), 0);
    }

    private static void meeting() {
        Says.term(7, "MEET: TOWNS where DONE lines of both GAUGES end.");
        LinesPromised x = granted(8, 9);
        x.man(10);
        Check.due("granted, not done", x.meet(), 0);
        x.dig(1);
        Check.due("one gauge", x.meet(), 0);
        x.dig(1);
        Check.due("both in town 1", x.meet(), 2);
        LinesPromised y = granted(8, 10);
        y.man(99);
        y.dig(1);
        Check.due("two of one gauge that do not touch", y.meet(), 0);
        for (int bill = 8; bill < 12; bill++) {
            LinesPromised one = granted(bill);
            one.man(99);
            one.dig(1);
            Check.due("one line of either gauge", one.meet(), 0);
        }
        LinesPromised z = granted(8, 9, 10, 11);
        z.man(99);
        z.dig(1);
        Check.due("all round", z.meet(), 15);
        LinesPromised w = new LinesPromised();
        w.town(0, 0);
        w.town(1, 0);
        w.town(2, 0);
        w.coin(0, 99);
        for (int i = 0; i < 3; i++) {
            w.scheme(i == 2 ? 1 : 0, i == 2 ? 2 : 1, i % 2, 1);
            w.lend(2 * i, 0, 30);
        }
        Check.plan(w, 0, 0, 1);
        Check.plan(w, 2, 0, 1);
        Check.plan(w, 4, 1, 2);
        for (int i = 0; i < 3; i++) w.grant(w.bill(6 + i));
        w.man(99);
        w.dig(1);
        Check.due("two lines between the same towns", w.meet(), 3);
    }

    private static void relaid() {
        Says.term(7, "RELAID: the fewest of GRANTED BILLS (10 at most, else -9) whose GAUGE must become the other one"
            + " so that all told TOWNS are joined by GRANTED lines of one GAUGE (either one);");
        LinesPromised x = granted(8, 9, 10);
        Check.due("joined by gauge 0", x.gauge(3), 0);
        Check.due("joined by gauge 1", x.gauge(6), 0);
        Check.due("the middle one", x.gauge(9), 2);
        Check.due("all four: one of three, not two", x.gauge(15), 2);
        Check.due("they need not be done", x.count(7), 0);
        LinesPromised y = granted(8, 10);
        Check.due("not joined at all", y.gauge(5), -5);
        Check.due("not joined at all", y.gauge(15), -5);
        y.grant(11);
        Check.due("0 - 1, 2 - 3, 3 - 0: the last", y.gauge(15), 4);
        LinesPromised w = Check.fourBills();
        w.scheme(1, 2, 0, 1);
        Check.plan(w, 12, 3, 13, 23);
        w.bill(13);
        w.plan(15, 999, 999, 0);
        w.grant(8);
        w.grant(14);
        Check.due("whatever was asked ahead of it", w.gauge(7), 0);
        LinesPromised z = tenLines();
        Check.due("ten", z.gauge(3), 0);
        z.grant(23);
        Check.due("eleven", z.gauge(3), -9);
        Check.due("eleven", z.gauge(9), -9);
    }

    /** Ten granted lines of gauge 0 from town 0 to town 1, and bill 23, not granted, of gauge 1 from 1 to 2. */
    private static LinesPromised tenLines() {
        LinesPromised x = Check.fourTowns();
        x.scheme(0, 1, 0, 1);
        x.scheme(1, 2, 1, 1);
        for (int i = 0; i < 10; i++) {
            Check.plan(x, 0, 0, 1, 2, 3);
            Check.due("grant", x.grant(x.bill(2 + 2 * i)), i + 1);
        }
        Check.plan(x, 1, 3, 13, 23);
        Check.due("bill", x.bill(22), 23);
        return x;
    }

    private static void leastRelaid() {
        Says.term(7, "of several sets the least as bits by places among the GRANTED, by numbers.");
        LinesPromised x = granted(11, 10, 9, 8);
        // places 0 .. 3 are bills 8 .. 11, though granted the other way round
        Check.due("0 and 2 over 1, or over 3", x.gauge(5), 1);
        Check.due("all: any one of four", x.gauge(15), 1);
        LinesPromised y = granted(9, 11, 10);
        Check.due("1 - 2, 2 - 3, 3 - 0: the middle one is place 1", y.gauge(15), 2);
        Check.due("1 and 3: place 0, or place 1", y.gauge(10), 1);
        LinesPromised z = new LinesPromised();
        for (int i = 0; i < 6; i++) z.town(i, 0);
        int[] from = {0, 1, 4, 2};
        for (int i = 0; i < 4; i++) {
            z.scheme(from[i], from[i] + 1, i / 3, 1);
            Check.plan(z, 3 * i, from[i], from[i] + 1);
            z.grant(z.bill(3 * i + 1));
        }
        Check.due("places 0 and 1, or place 3 alone", z.gauge(15), 8);
    }

    private static void oneTownOrNone() {
        Says.term(7, "(One TOWN, or none: nothing; -9 ahead of that.)");
        LinesPromised x = Check.fourBills();
        for (int town = 0; town < 4; town++) Check.due("one town", x.gauge(1 << town), 0);
        Check.due("none", x.gauge(0), 0);
        Check.due("two", x.gauge(3), -5);
        LinesPromised z = tenLines();
        z.grant(23);
        Check.due("eleven lines, one town", z.gauge(1), -9);
        Check.due("eleven lines, no town", z.gauge(0), -9);
    }

    private static void grant(LinesPromised x, String what, int towns, int set, int coins) {
        Check.due(what + ": set", x.plan(towns, 99999, 999999, 0), set);
        Check.due(what + ": coins", x.plan(towns, 99999, 999999, 1), coins);
    }

    private static void grantOfThose() {
        Says.term(7, "THE GRANT for told TOWNS, n YARDS, COINS: of BILLS that can be LET TODAY and aren't GRANTED");
        LinesPromised x = Check.fourBills();
        grant(x, "the first", 3, 1, 60);
        Check.order(x, "let y<3", 0, 0);
        Check.order(x, "let g=0", 1, 1);
        grant(x, "1 - 2 alone", 6, 1, 40);
        grant(x, "0 - 1 can't be let", 3, -5, -5);
        grant(x, "0 - 3: place 1 among those that can", 9, 2, 40);
        x.dig(1);
        grant(x, "today 0 - 1 can", 3, 1, 60);
        grant(x, "today 1 - 2 can't", 6, -5, -5);
        x.grant(8);
        grant(x, "granted", 3, -5, -5);
        Says.term(7, "(the first 8 by numbers; GRANTED ones join nothing here):");
        grant(x, "2 - 3 is place 0 now", 12, 1, 60);
        LinesPromised y = Check.fourBills();
        y.grant(8);
        grant(y, "0 - 2 without 0 - 1", 5, 6, 100);
        LinesPromised z = Check.fourTowns();
        z.scheme(0, 1, 0, 1);
        z.scheme(1, 2, 1, 1);
        for (int i = 0; i < 8; i++) {
            Check.plan(z, 0, 0, 1, 2, 3);
            z.bill(2 + 2 * i);
        }
        Check.plan(z, 1, 3, 13, 23);
        z.bill(18);
        grant(z, "the ninth is none", 6, -5, -5);
        z.grant(17);
        grant(z, "now it is the eighth", 6, 128, 40);
    }

    private static void grantWithin() {
        Says.term(7, "the set by which the told TOWNS are joined by its lines (of any GAUGE), no two BAR, of no more YARDS together,");
        LinesPromised x = Check.fourBills();
        Check.due("of both gauges", x.plan(7, 50, 999, 0), 3);
        Check.due("one yard less", x.plan(7, 49, 999, 0), -5);
        Check.due("one line of just so many", x.plan(3, 30, 999, 0), 1);
        Check.due("one yard less: round it is more", x.plan(3, 29, 999, 0), -5);
        x.bar(8, 9);
        Check.due("two bar: round the other way", x.plan(7, 99, 999, 0), 14);
        Check.due("of just so many yards", x.plan(7, 70, 999, 0), 14);
        Check.due("one yard less", x.plan(7, 69, 999, 0), -5);
        x.bar(10, 11);
        Check.due("and two more", x.plan(7, 999, 999, 0), -5);
        LinesPromised z = Check.fourBills();
        z.claim(13, 50);
        Check.due("all but the dear one", z.plan(15, 999, 999, 0), 13);
        z.bar(8, 10);
        z.bar(9, 10);
        Check.due("10 is barred by both", z.plan(15, 999, 999, 0), 11);
        Check.order(z, "let c<50", 0, 0);
        Check.due("without the second, of three the first and the second bar", z.plan(15, 999, 999, 0), -5);
        Check.due("the first and the last don't", z.plan(11, 999, 999, 0), 5);
        Check.due("one of each is fine", x.plan(3, 999, 999, 0), 1);
        Says.term(7, "and of least COINS (2 a YARD and CLAIMS, each BILL's CLAIMS by themselves), no more than told;");
        LinesPromised y = Check.fourBills();
        y.claim(3, 7);
        y.claim(3, 1);
        y.claim(55, 999);
        grant(y, "of one", 3, 1, 68);
        grant(y, "of both that end there", 7, 3, 60 + 8 + 40 + 8);
        Check.due("just so many", y.plan(7, 999, 116, 1), 116);
        Check.due("one less", y.plan(7, 999, 115, 1), -5);
        y.land(1, 1, 1);
        grant(y, "yards as now", 3, 1, 108);
    }

    private static void grantOfLeast() {
        Says.term(7, "of several the fewest, then the least as bits.");
        LinesPromised x = Check.fourBills();
        grant(x, "three of four: 0, 1, 3 and 1, 2, 3 cost the same", 15, 11, 140);
        x.scheme(0, 2, 0, 1);
        Check.plan(x, 12, 0, 10, 20, 21, 22, 23);
        Check.due("a fifth bill, from 0 straight to 2", x.bill(13), 14);
        grant(x, "one for 100, not two", 5, 16, 100);
        x.claim(21, 1);
        grant(x, "two for 100, not one for more", 5, 3, 100);
        LinesPromised z = Check.fourBills();
        z.scheme(0, 1, 0, 1);
        Check.plan(z, 12, 0, 10, 11, 12, 13, 3);
        z.bill(13);
        z.claim(1, 39);
        grant(z, "dearer by one", 3, 1, 99);
        z.claim(1, 1);
        grant(z, "the same", 3, 1, 100);
        z.claim(1, 1);
        grant(z, "cheaper by one", 3, 16, 100);
        LinesPromised y = Check.fourBills();
        y.scheme(1, 0, 1, 1);
        Check.plan(y, 12, 3, 2, 1, 0);
        Check.due("the same back", y.bill(13), 14);
        grant(y, "least as bits", 3, 1, 60);
        y.bar(8, 9);
        grant(y, "one that bars", 7, 18, 100);
    }

    private static void dig() {
        Says.promise(38, "n DAYS (1 .. 50) go by: TODAY.");
        Check.range("days", LinesPromised::new, (x, n) -> x.dig(n), 1, 50, -2);
        LinesPromised x = granted(8);
        x.man(1);
        Check.due("fifty days", x.dig(50), 50);
        Check.due("dug in ten of them", x.last(8, 1), 9);
        Says.promise(38, "BAD: also beyond 999.");
        for (int i = 0; i < 18; i++) x.dig(50);
        Check.due("today", x.dig(48), 998);
        Check.due("to 1000", x.dig(2), -2);
        Check.due("to 1048", x.dig(50), -2);
        Check.due("no day went by", x.count(3), 998);
        Check.due("to 999", x.dig(1), 999);
        Check.due("to 1000", x.dig(1), -2);
        Check.due("today", x.count(3), 999);
        Check.due("a paper of the last day", x.about(x.claim(0, 1), 2), 999);
        Check.due("998 went by", x.known(0, 998), 40);
        Check.due("999 didn't", x.known(0, 999), -1);
    }

    private static void last() {
        Says.promise(39, "Of a GRANTED BILL what 0 YARDS left (as it was GRANTED, less those dug), 1 the DAY on which it was DONE (-5: it isn't).");
        LinesPromised x = granted(9);
        x.land(13, 1, 1);
        x.land(13, 0, 50);
        x.grant(8);
        x.land(1, 1, 2);
        x.man(1);
        x.dig(1);
        Check.due("as it was granted", x.last(8, 0), 27);
        x.man(9);
        x.dig(1);
        Check.due("the first by numbers is done", x.last(8, 1), 1);
        Check.due("the other as it was granted", x.last(9, 0), 20);
        Check.due("not done", x.last(9, 1), -5);
        LinesPromised y = funded();
        y.land(1, 1, 2);
        y.grant(8);
        y.land(1, 1, 0);
        Check.due("as it was granted", y.last(8, 0), 35);
        Says.promise(39, "NONE; STATE: it isn't GRANTED.");
        Check.range("what", () -> granted(8), (z, n) -> z.last(8, n), 0, 1, -1);
        Check.due("what ahead of state", y.last(9, 2), -1);
        Check.due("state", y.last(9, 0), -3);
        Check.due("state", y.last(9, 1), -3);
        for (int paper : new int[] {Integer.MIN_VALUE, -1, 0, 7, 12, 16, Integer.MAX_VALUE}) {
            Check.due("no bill " + paper, y.last(paper, 0), -1);
        }
    }

    private static void meet() {
        Says.promise(40, "MEET: TOWNS as bits.");
        LinesPromised x = new LinesPromised();
        Check.due("no towns", x.meet(), 0);
        for (int i = 0; i < 6; i++) x.town(i, 0);
        x.coin(0, 99);
        for (int i = 0; i < 2; i++) {
            x.scheme(4 + i, 5 - i, i, 1);
            x.lend(4 * i, 0, 20);
            Check.plan(x, 4 * i, 4 + i, 5 - i);
            x.grant(x.bill(4 * i + 2));
        }
        x.man(99);
        Check.due("none yet", x.meet(), 0);
        x.dig(1);
        Check.due("the last two of six", x.meet(), 48);
    }

    private static void gauge() {
        Says.promise(41, "RELAID for told TOWNS (bits): the set; -5: none joins them; -9.");
        LinesPromised x = new LinesPromised();
        for (int i = 0; i < 6; i++) x.town(i, 0);
        for (int i = 0; i < 5; i++) {
            x.scheme(i, i + 1, i % 2, 1);
            Check.plan(x, 3 * i, i, i + 1);
            Check.due("one less: none joins all", x.gauge(63), -5);
            x.grant(x.bill(3 * i + 1));
        }
        Check.due("two of five", x.gauge(63), 2 + 8);
        Check.due("the ends", x.gauge(33), 2 + 8);
        Check.due("one of two", x.gauge(5), 1);
        Says.promise(41, "BAD.");
        Check.range("bits of six towns", () -> {
            LinesPromised y = new LinesPromised();
            for (int i = 0; i < 6; i++) y.town(i, 0);
            return y;
        }, (y, n) -> y.gauge(n), 0, 63, -2);
        Check.range("bits of four towns", Check::fourTowns, (y, n) -> y.gauge(n), 0, 15, -2);
        Check.range("bits of no towns", LinesPromised::new, (y, n) -> y.gauge(n), 0, 0, -2);
        LinesPromised z = tenLines();
        z.grant(23);
        Check.due("bad ahead of -9", z.gauge(16), -2);
    }

    private static void plan() {
        Says.promise(42, "THE GRANT: what 0 the set as bits (by their places among those 8), 1 COINS; -5: there is none.");
        LinesPromised x = Check.fourBills();
        x.grant(9);
        Check.due("places among those", x.plan(12, 99, 99, 0), 2);
        Check.due("coins", x.plan(12, 99, 99, 1), 60);
        Check.due("none", x.plan(6, 79, 999, 0), -5);
        Check.due("none", x.plan(6, 79, 999, 1), -5);
        for (int town = 0; town < 4; town++) {
            Check.due("one town takes nothing", x.plan(1 << town, 0, 0, 0), 0);
            Check.due("one town takes nothing", x.plan(1 << town, 0, 0, 1), 0);
            Check.due("however much there is", x.plan(1 << town, 99999, 999999, 0), 0);
            Check.due("however much there is", x.plan(1 << town, 99999, 999999, 1), 0);
        }
        Check.due("no town takes nothing", x.plan(0, 0, 0, 0), 0);
        Check.due("without bills", Check.fourTowns().plan(3, 99999, 999999, 1), -5);
        Check.due("without towns", new LinesPromised().plan(0, 99999, 999999, 1), 0);
        Says.promise(42, "NONE: what; BAD: bits, yards (0 .. 99999), coins (0 .. 999999).");
        Check.range("what", Check::fourBills, (y, n) -> y.plan(3, 99, 99, n), 0, 1, -1);
        Check.range("bits", Check::fourBills, (y, n) -> y.plan(n, 99, 99, 0), 0, 15, -2);
        Check.range("bits of no towns", LinesPromised::new, (y, n) -> y.plan(n, 0, 0, 0), 0, 0, -2);
        Check.range("yards", Check::fourBills, (y, n) -> y.plan(3, n, 99, 0), 0, 99999, -2);
        Check.range("coins", Check::fourBills, (y, n) -> y.plan(3, 99, n, 0), 0, 999999, -2);
        Check.due("what ahead of bits", x.plan(-1, 1, 1, 2), -1);
        Check.due("what ahead of yards", x.plan(1, -1, 1, -1), -1);
        Check.due("what ahead of coins", x.plan(1, 1, -1, 2), -1);
    }
}
