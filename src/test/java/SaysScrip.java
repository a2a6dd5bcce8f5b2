/** The sentences of term 6 on shares and of promises 28 to 33, each with a test of its own. */
final class SaysScrip {
    private SaysScrip() {
    }

    static void all() {
        shares();
        offered();
        bestOfBoth();
        asManyAsCan();
        noneCanGo();
        allAreOut();
        othersStay();
        taken();
        held();
        purse();
        ask();
        price();
        read();
    }

    private static void shares() {
        Says.term(6, "A HOLDER has SHARES of SCHEMES; those of nobody are the SCHEME's.");
        LinesPromised x = Check.fourSchemes();
        for (int scheme = 0; scheme < 4; scheme++) {
            Check.due("all are the scheme's", x.held(scheme, 8), 20 + scheme);
            for (int holder = 0; holder < 8; holder++) Check.due("none has any", x.held(scheme, holder), 0);
        }
        for (int holder = 0; holder < 8; holder++) x.scrip(1, holder, 1 + holder / 2);
        Check.due("one is left", x.held(1, 8), 1);
        Check.due("of others none went", x.held(0, 8), 20);
        for (int holder = 0; holder < 8; holder++) Check.due("each its own", x.held(1, holder), 1 + holder / 2);
        Says.term(6, "TAKEN: n of the SCHEME's for nothing.");
        x.coin(0, 5);
        x.scrip(0, 0, 20);
        Check.due("all of them", x.held(0, 0), 20);
        Check.due("none left", x.held(0, 8), 0);
        Check.due("for nothing", x.purse(0, 0), 5);
        Check.due("for nothing", x.purse(1, 0), 0);
    }

    /** Holders 0 and 1 have five shares each of scheme 0, holders 2 and 3 a thousand coins each. */
    private static LinesPromised market() {
        LinesPromised x = Check.fourSchemes();
        x.scrip(0, 0, 5);
        x.scrip(0, 1, 5);
        x.coin(2, 1000);
        x.coin(3, 1000);
        return x;
    }

    private static void haves(LinesPromised x, String what, int... due) {
        for (int holder = 0; holder < 4; holder++) {
            Check.due(what + ": shares of " + holder, x.held(0, holder), due[2 * holder]);
            Check.due(what + ": coins of " + holder, x.purse(0, holder), due[2 * holder + 1]);
        }
    }

    private static void offered() {
        Says.term(6, "OFFERED, ASKED: of a HOLDER, n SHARES of a SCHEME (1 .. 99) at a price (1 .. 999);");
        for (int side = 0; side < 2; side++) {
            boolean ask = side == 1;
            Check.range("n", SaysScrip::market, (x, n) -> x.ask(0, 0, n, 1, ask), 1, 99, -2);
            Check.range("price", SaysScrip::market, (x, n) -> x.ask(0, 0, 1, n, ask), 1, 999, -2);
        }
        Says.term(6, "40 at most of both together, that stand till TRADE.");
        LinesPromised x = market();
        for (int i = 1; i <= 40; i++) Check.due("stands", x.ask(i % 2, i % 8, 99, 999, i > 20), i);
        Check.due("one more", x.ask(0, 0, 1, 1, true), -4);
        Check.due("one more", x.ask(1, 0, 1, 1, false), -4);
        x.dig(50);
        Check.due("they stand", x.count(9), 40);
        x.price(2);
        Check.due("they stand", x.count(9), 40);
        x.price(1);
        Check.due("of the other scheme", x.count(9), 20);
        Check.due("there is room again", x.ask(1, 0, 1, 1, true), 21);
    }

    private static void bestOfBoth() {
        Says.term(6, "TRADE in a SCHEME: again and again the least price OFFERED (of several the one told first)"
            + " and the greatest ASKED (likewise) that isn't less:");
        LinesPromised x = market();
        x.ask(0, 0, 1, 8, false);
        x.ask(0, 1, 1, 7, false);
        x.ask(0, 2, 1, 9, true);
        x.ask(0, 3, 1, 10, true);
        Check.due("both", x.price(0), 2);
        haves(x, "least and greatest first", 4, 8, 4, 7, 1, 992, 1, 993);
        x = market();
        x.ask(0, 1, 1, 7, false);
        x.ask(0, 0, 1, 7, false);
        x.ask(0, 3, 1, 7, true);
        x.ask(0, 2, 1, 7, true);
        x.ask(0, 1, 1, 6, true);
        Check.due("at the same price", x.price(0), 2);
        haves(x, "at the same price", 4, 7, 4, 7, 1, 993, 1, 993);
        x = market();
        x.ask(0, 1, 2, 7, false);
        x.ask(0, 0, 2, 7, false);
        x.ask(0, 3, 1, 7, true);
        x.ask(0, 2, 1, 7, true);
        Check.due("told first", x.price(0), 2);
        haves(x, "told first", 5, 0, 3, 14, 1, 993, 1, 993);
        x = market();
        x.ask(0, 1, 1, 7, false);
        x.ask(0, 3, 1, 9, true);
        x.ask(0, 2, 1, 9, true);
        Check.due("told first", x.price(0), 1);
        haves(x, "told first", 5, 0, 4, 7, 0, 1000, 1, 993);
        x = market();
        x.ask(0, 0, 1, 8, false);
        x.ask(0, 2, 1, 7, true);
        Check.due("less by one", x.price(0), 0);
        haves(x, "less by one", 5, 0, 5, 0, 0, 1000, 0, 1000);
        x = market();
        x.ask(0, 2, 1, 999, true);
        x.ask(0, 0, 1, 1, false);
        Check.due("whichever came first", x.price(0), 1);
        haves(x, "whichever came first", 4, 1, 5, 0, 1, 999, 0, 1000);
    }

    private static void sale(String what, int went, int offered, int asked, int price, int bid, int coins) {
        LinesPromised x = market();
        x.coin(2, coins);
        x.ask(0, 0, offered, price, false);
        x.ask(0, 2, asked, bid, true);
        Check.due(what, x.price(0), went);
        haves(x, what, 5 - went, went * price, 5, 0, went, coins - went * price, 0, 1000);
    }

    private static void asManyAsCan() {
        Says.term(6, "as many go as both have left, as who OFFERED has SHARES left, as who ASKED has COINS for, at the price OFFERED;");
        sale("all", 4, 4, 4, 10, 10, 100);
        sale("as offered", 3, 3, 4, 10, 10, 100);
        sale("as asked", 2, 3, 2, 10, 10, 100);
        sale("as it has", 5, 99, 99, 10, 10, 100);
        sale("as it has coins for", 4, 99, 99, 10, 10, 49);
        sale("just enough", 5, 5, 5, 10, 10, 50);
        sale("coins for none", 0, 5, 5, 10, 10, 9);
        sale("at the price offered", 4, 5, 5, 10, 999, 49);
        sale("no coins", 0, 5, 5, 1, 999, 0);
        LinesPromised x = market();
        x.ask(0, 0, 9, 3, false);
        x.ask(0, 2, 2, 9, true);
        x.ask(0, 3, 2, 8, true);
        x.ask(0, 2, 2, 7, true);
        Check.due("what is left goes on", x.price(0), 5);
        haves(x, "what is left goes on", 0, 15, 5, 0, 3, 991, 2, 994);
    }

    private static void noneCanGo() {
        Says.term(6, "if none can go, that of both which can't (OFFERED first) is out; so are those that have none left.");
        LinesPromised x = market();
        x.ask(0, 4, 5, 1, false);
        x.ask(0, 0, 2, 3, false);
        x.ask(0, 2, 2, 9, true);
        Check.due("who has no shares is out", x.price(0), 2);
        x = market();
        x.ask(0, 0, 2, 3, false);
        x.ask(0, 4, 2, 99, true);
        x.ask(0, 2, 2, 9, true);
        Check.due("who has no coins is out", x.price(0), 2);
        haves(x, "who has coins has them", 3, 6, 5, 0, 2, 994, 0, 1000);
        x = market();
        x.ask(0, 4, 5, 1, false);
        x.ask(0, 5, 2, 99, true);
        x.ask(0, 1, 1, 3, false);
        x.ask(0, 3, 2, 9, true);
        Check.due("both are out, and others trade", x.price(0), 1);
        haves(x, "both are out", 5, 0, 4, 3, 0, 1000, 1, 997);
        x = market();
        x.coin(2, 10);
        x.ask(0, 0, 3, 8, false);
        x.ask(0, 1, 3, 9, false);
        x.ask(0, 2, 3, 50, true);
        x.ask(0, 3, 3, 9, true);
        Check.due("who has coins for one is out then", x.price(0), 1 + 2 + 1);
        haves(x, "who has coins for one", 2, 24, 4, 9, 1, 2, 3, 975);
        x = market();
        x.ask(0, 2, 3, 5, false);
        x.ask(0, 0, 5, 4, false);
        x.ask(0, 2, 4, 9, true);
        x.ask(0, 3, 9, 9, true);
        Check.due("shares got in this trade go on", x.price(0), 5 + 3);
        haves(x, "shares got in this trade", 0, 20, 5, 0, 1, 1000 - 16 + 15, 4, 1000 - 4 - 15);
        x = market();
        x.coin(2, 0);
        x.scrip(0, 2, 2);
        x.ask(0, 2, 2, 3, false);
        x.ask(0, 0, 2, 4, false);
        x.ask(0, 3, 2, 9, true);
        x.ask(0, 2, 2, 5, true);
        Check.due("coins got in this trade go on", x.price(0), 2 + 1);
        haves(x, "coins got in this trade", 4, 4, 5, 0, 1, 2, 2, 994);
    }

    private static void allAreOut() {
        Says.term(6, "When it ends all of that SCHEME are out.");
        LinesPromised x = market();
        x.ask(0, 0, 5, 9, false);
        x.ask(0, 2, 5, 8, true);
        Check.due("none went", x.price(0), 0);
        Check.due("but they are out", x.count(9), 0);
        x.ask(0, 2, 5, 9, true);
        Check.due("the offered one is, too", x.price(0), 0);
        x.ask(0, 0, 5, 9, false);
        Check.due("the asked one is, too", x.price(0), 0);
        Check.due("none at all", x.price(0), 0);
        x.ask(0, 0, 5, 9, false);
        x.ask(0, 2, 3, 9, true);
        Check.due("three went", x.price(0), 3);
        x.ask(0, 2, 3, 9, true);
        Check.due("the two that were left are out", x.price(0), 0);
    }

    /** Those of two schemes told by turns: the ones that stay must stay as they were told. */
    private static void othersStay() {
        LinesPromised x = market();
        x.scrip(1, 5, 6);
        x.scrip(1, 6, 6);
        x.coin(7, 900);
        x.coin(4, 900);
        x.ask(0, 0, 1, 1, false);
        x.ask(1, 7, 4, 40, true);
        x.ask(0, 2, 1, 2, true);
        x.ask(1, 6, 3, 20, false);
        x.ask(0, 1, 3, 4, false);
        x.ask(1, 4, 4, 25, true);
        x.ask(0, 3, 2, 6, true);
        x.ask(1, 5, 2, 30, false);
        Check.due("of the one", x.price(0), 2);
        haves(x, "of the one", 4, 1, 4, 4, 0, 1000, 2, 995);
        Check.due("those of the other stand", x.count(9), 4);
        Check.due("of the other", x.price(1), 4);
        Check.due("three at 20 and one at 30", x.purse(0, 7), 900 - 60 - 30);
        Check.due("25 is less than 30", x.held(1, 4), 0);
        Check.due("sold", x.held(1, 5), 5);
        Check.due("sold", x.held(1, 6), 3);
        Check.due("read", x.read(1), 30);
        Check.due("none stand", x.count(9), 0);
    }

    private static void taken() {
        Says.promise(28, "TAKEN: how many the HOLDER has.");
        LinesPromised x = Check.fourTowns();
        x.scheme(0, 1, 0, 99);
        x.scheme(0, 1, 0, 1);
        Check.due("all 99", x.scrip(0, 0, 99), 99);
        Check.due("the only one", x.scrip(1, 7, 1), 1);
        LinesPromised y = Check.fourSchemes();
        Check.due("one", y.scrip(0, 3, 1), 1);
        Check.due("and nineteen", y.scrip(0, 3, 19), 20);
        Says.promise(28, "NONE: no SCHEME, holder; BAD: n (1 .. 99); STATE: it has not so many left, or is FALLEN.");
        Check.range("n", () -> {
            LinesPromised z = Check.fourTowns();
            z.scheme(0, 1, 0, 99);
            return z;
        }, (z, n) -> z.scrip(0, 0, n), 1, 99, -2);
        for (int paper : new int[] {Integer.MIN_VALUE, -1, 4, Integer.MAX_VALUE}) {
            Check.due("no scheme " + paper, y.scrip(paper, 0, 1), -1);
        }
        Check.due("a plan is none", Check.fourBills().scrip(4, 0, 1), -1);
        Check.due("none left", y.scrip(0, 0, 1), -3);
        Check.due("one too many", y.scrip(1, 0, 22), -3);
        Check.due("all", y.scrip(1, 0, 21), 21);
        Check.due("n ahead of none left", y.scrip(0, 0, 0), -2);
        Check.due("no holder, ahead of n", y.scrip(0, 8, 0), -1);
        Check.due("no scheme, ahead of n", y.scrip(4, 0, 100), -1);
        Check.due("refused ones change nothing", y.held(0, 0), 0);
        LinesPromised fallen = SaysDebts.fallenScheme();
        Check.due("fallen", fallen.scrip(0, 0, 1), -3);
        Check.due("n ahead of fallen", fallen.scrip(0, 0, 100), -2);
    }

    private static void held() {
        Says.promise(29, "SHARES of a SCHEME that a HOLDER has (holder 8: the SCHEME's). NONE.");
        Check.range("holder", Check::fourSchemes, (x, n) -> x.held(3, n), 0, 8, -1);
        Check.range("scheme", Check::fourSchemes, (x, n) -> x.held(n, 0), 0, 3, -1);
        LinesPromised x = Check.fourBills();
        x.scrip(3, 7, 5);
        Check.due("holder", x.held(3, 7), 5);
        Check.due("the scheme's", x.held(3, 8), 18);
        Check.due("of a bill", x.held(8, 8), -1);
    }

    private static void purse() {
        Says.promise(30, "COINS of a HOLDER (what 0), of a SCHEME (1: its PAPER). NONE.");
        LinesPromised x = Check.fourBills();
        x.scheme(0, 1, 0, 1);
        x.coin(1, 70);
        x.lend(12, 1, 30);
        Check.due("holder", x.purse(0, 1), 40);
        Check.due("scheme by its paper", x.purse(1, 12), 30);
        Check.due("not by its number among schemes", x.purse(1, 4), -1);
        Check.due("another scheme", x.purse(1, 1), 0);
        Check.range("holder", Check::fourSchemes, (y, n) -> y.purse(0, n), 0, 7, -1);
        Check.range("scheme", Check::fourSchemes, (y, n) -> y.purse(1, n), 0, 3, -1);
        Check.range("what", Check::fourSchemes, (y, n) -> y.purse(n, 0), 0, 1, -1);
    }

    private static void ask() {
        Says.promise(31, "OFFERED (ask false), or ASKED: how many stand (of all SCHEMES).");
        LinesPromised x = market();
        Check.due("one", x.ask(0, 0, 1, 1, false), 1);
        Check.due("of another scheme", x.ask(3, 0, 1, 1, true), 2);
        Check.due("false is offered: none asks", x.price(0), 0);
        x.ask(0, 0, 1, 5, false);
        x.ask(0, 2, 1, 5, true);
        Check.due("true is asked", x.price(0), 1);
        Check.due("held", x.held(0, 2), 1);
        Check.due("one that it has not may be offered", x.ask(0, 7, 99, 1, false), 2);
        Says.promise(31, "NONE: no SCHEME, holder; BAD: n, price; FULL.");
        for (int i = 3; i <= 40; i++) x.ask(2, 0, 1, 1, true);
        Check.due("full", x.ask(0, 0, 1, 1, true), -4);
        Check.due("n ahead of full", x.ask(0, 0, 100, 1, true), -2);
        Check.due("price ahead of full", x.ask(0, 0, 1, 1000, true), -2);
        Check.due("no holder, ahead of n", x.ask(0, 8, 0, 1, true), -1);
        Check.due("no scheme, ahead of price", x.ask(4, 0, 1, 0, false), -1);
        Check.due("no holder, ahead of full", x.ask(0, -1, 1, 1, false), -1);
        Check.range("scheme", Check::fourSchemes, (y, n) -> y.ask(n, 0, 1, 1, true), 0, 3, -1);
        Check.due("refused ones do not stand", x.count(9), 40);
    }

    private static void price() {
        Says.promise(32, "TRADE: how many SHARES went. NONE.");
        LinesPromised x = market();
        Check.due("none stand", x.price(0), 0);
        x.ask(0, 0, 3, 2, false);
        x.ask(0, 1, 4, 1, false);
        x.ask(0, 2, 9, 2, true);
        Check.due("seven", x.price(0), 7);
        Check.range("scheme", Check::fourSchemes, (y, n) -> y.price(n), 0, 3, -1);
        Check.due("a plan is none", Check.fourBills().price(4), -1);
    }

    private static void read() {
        Says.promise(33, "The latest price of a SCHEME's SHARES; -5: none went. NONE.");
        LinesPromised x = market();
        Check.due("none went", x.read(0), -5);
        x.ask(0, 0, 1, 9, false);
        x.ask(0, 2, 1, 8, true);
        x.price(0);
        Check.due("still none", x.read(0), -5);
        x.ask(0, 0, 1, 3, false);
        x.ask(0, 1, 1, 6, false);
        x.ask(0, 2, 1, 999, true);
        x.ask(0, 3, 1, 999, true);
        x.price(0);
        Check.due("the later of two", x.read(0), 6);
        x.price(0);
        Check.due("it stays when none go", x.read(0), 6);
        Check.due("of another", x.read(1), -5);
        Check.range("scheme", Check::fourSchemes, (y, n) -> y.read(n), 0, 3, -1);
        Check.due("a bill is none", Check.fourBills().read(8), -1);
    }
}
