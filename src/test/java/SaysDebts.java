/** The sentences of term 6 on calls, loans and payments, and of promises 34 to 37, each with a test of its own. */
final class SaysDebts {
    private SaysDebts() {
    }

    static void all() {
        pence();
        gap();
        loans();
        settledOnce();
        whoOwesWhom();
        canPay();
        cut();
        rounds();
        fallenHolder();
        fallenForGood();
        call();
        lend();
        settle();
        along();
    }

    /** Scheme 0 of four bills owes holder 0 so many coins, an even number up to 1328, and has dug them up. */
    private static LinesPromised indebted(int coins) {
        LinesPromised x = Check.fourBills();
        x.coin(0, coins);
        Check.due("lend", x.lend(0, 0, coins), 12);
        x.land(1, 0, 99);
        x.land(1, 1, 1);
        x.land(3, 1, 1);
        x.grant(8);
        x.man(99);
        x.dig(5);
        x.man(0);
        Check.due("all is dug up", x.purse(1, 0), 0);
        return x;
    }

    /** Scheme 0 is fallen, holder 0 has shares of it and coins. */
    static LinesPromised fallenScheme() {
        LinesPromised x = indebted(20);
        x.scrip(0, 0, 4);
        Check.due("settle", x.settle(), 1 << 8);
        for (int holder = 0; holder < 8; holder++) x.coin(holder, 500);
        return x;
    }

    private static void pence() {
        Says.term(6, "CALLS: pence (1 .. call) a SHARE that HOLDERS have when they are SETTLED (COINS owed: pence times SHARES), told TODAY,");
        Check.range("pence", Check::fourSchemes, (x, n) -> x.call(0, n), 1, 50, -2);
        LinesPromised x = Check.fourSchemes();
        Check.order(x, "call 0", 1, 0);
        Check.order(x, "call 999", 2, 1);
        Check.due("by the usual rule of today", x.call(0, 51), -2);
        x.dig(1);
        Check.due("none", x.call(1, 1), -2);
        Check.due("none", x.call(1, 0), -2);
        x.dig(1);
        Check.due("a thousand", x.call(1, 1000), -2);
        Check.due("call", x.call(1, 999), 4);
        Check.due("told today", x.about(4, 2), 2);
        x.coin(0, 99999);
        Check.due("nobody has any", x.along(0, 0), 0);
        x.scrip(1, 0, 21);
        Check.due("when they are settled", x.along(0, 0), 21 * 999);
        x.ask(1, 0, 20, 1, false);
        x.ask(1, 1, 20, 1, true);
        x.coin(1, 20);
        x.price(1);
        Check.due("sold ones are another's", x.along(0, 0), 999);
        x.coin(1, 99999);
        Check.due("pence times shares", x.along(0, 1), 20 * 999);
        Check.due("the scheme's own owe nothing", x.settle(), 0);
        Check.due("coins", x.purse(1, 1), 21 * 999);
    }

    private static void gap() {
        Says.term(6, "gap DAYS or more behind the one ahead of that SCHEME.");
        LinesPromised x = Check.fourSchemes();
        Check.due("the first of all", x.call(0, 1), 4);
        Check.due("on the same day", x.call(0, 1), -3);
        Check.due("another scheme's", x.call(1, 1), 5);
        x.dig(9);
        Check.due("nine days", x.call(0, 1), -3);
        x.dig(1);
        Check.due("ten days", x.call(0, 1), 6);
        x.settle();
        Check.due("settled ones count", x.call(0, 1), -3);
        x.dig(9);
        Check.due("nine days behind the latest", x.call(0, 1), -3);
        Check.order(x, "gap 9", 19, 0);
        Check.order(x, "gap 0", 20, 1);
        Check.order(x, "gap 2", 21, 2);
        Check.due("by the rule of today", x.call(0, 1), 7);
        x.dig(1);
        Check.due("no gap", x.call(0, 1), 8);
        Check.due("no gap", x.call(0, 1), 9);
        x.dig(1);
        Check.due("one day", x.call(0, 1), -3);
        x.dig(1);
        Check.due("two days", x.call(0, 1), 10);
        Check.order(x, "gap 999", 22, 3);
        Check.due("of a scheme without any", x.call(2, 1), 11);
    }

    private static void loans() {
        Says.term(6, "LOANS: a HOLDER lends COINS (1 .. 9999; it has them) to a SCHEME, to be paid when SETTLED.");
        Check.range("coins", () -> {
            LinesPromised x = Check.fourSchemes();
            x.coin(0, 99999);
            return x;
        }, (x, n) -> x.lend(0, 0, n), 1, 9999, -2);
        LinesPromised x = Check.fourSchemes();
        x.coin(0, 7);
        Check.due("it has not so many", x.lend(0, 0, 8), -3);
        Check.due("it has", x.lend(0, 0, 7), 4);
        Check.due("the holder's are gone", x.purse(0, 0), 0);
        Check.due("the scheme has them", x.purse(1, 0), 7);
        Check.due("it has none left", x.lend(0, 0, 1), -3);
        Check.due("paid when settled", x.settle(), 0);
        Check.due("it has them again", x.purse(0, 0), 7);
        Check.due("the scheme has none", x.purse(1, 0), 0);
    }

    private static void settledOnce() {
        Says.term(6, "SETTLED: all CALLS and LOANS that were not yet.");
        LinesPromised x = Check.fourSchemes();
        Check.due("nothing", x.settle(), 0);
        x.coin(0, 100);
        x.coin(1, 50);
        x.scrip(0, 0, 2);
        x.call(0, 5);
        x.lend(1, 1, 20);
        Check.due("settle", x.settle(), 0);
        Check.due("call", x.purse(0, 0), 90);
        Check.due("loan", x.purse(0, 1), 50);
        Check.due("marked", x.about(4, 7), 1);
        Check.due("marked", x.about(5, 7), 1);
        x.lend(1, 1, 30);
        Check.due("not yet", x.about(6, 7), 0);
        Check.due("settle", x.settle(), 0);
        Check.due("not called again", x.purse(0, 0), 90);
        Check.due("not paid again", x.purse(0, 1), 50);
        Check.due("coins of the scheme", x.purse(1, 1), 0);
        Check.due("coins of the scheme", x.purse(1, 0), 10);
    }

    private static void whoOwesWhom() {
        Says.term(6, "HOLDERS OWE the SCHEMES (of a SCHEME all its CALLS together), SCHEMES the lenders.");
        LinesPromised x = Check.fourSchemes();
        Check.order(x, "gap 0", 0, 0);
        x.scrip(0, 0, 1);
        x.scrip(1, 0, 1);
        x.coin(0, 10);
        for (int i = 0; i < 3; i++) x.call(0, 5);
        x.call(1, 5);
        Check.due("15 and 5 of 10: 7 and 2, not thrice 2 and 2", x.along(0, 0), 9);
        x.settle();
        Check.due("its calls together", x.purse(1, 0), 7);
        Check.due("of another", x.purse(1, 1), 2);
        LinesPromised y = Check.fourSchemes();
        for (int holder = 0; holder < 8; holder++) y.coin(holder, 10);
        for (int holder = 0; holder < 8; holder++) y.lend(holder % 4, holder, 1 + holder);
        y.settle();
        for (int holder = 0; holder < 8; holder++) Check.due("each lender has its own", y.purse(0, holder), 10);
        LinesPromised z = indebted(4);
        z.coin(0, 8);
        z.coin(1, 8);
        z.lend(0, 0, 3);
        z.lend(0, 1, 4);
        Check.due("7 of 11 owed: 4 of 4 and 3 together, 2 of 4", z.along(1, 0), 4 + 2);
        Check.due("settle", z.settle(), 1 << 8);
        Check.due("all loans of one lender together", z.purse(0, 0), 5 + 4);
        Check.due("of the other", z.purse(0, 1), 4 + 2);
    }

    private static void canPay() {
        Says.term(6, "Each can pay what it has, and what is paid to it, up to what it OWES in all;");
        LinesPromised x = indebted(100);
        x.scrip(0, 1, 10);
        x.call(0, 7);
        for (int coins = 0; coins <= 120; coins += 10) {
            x.coin(1, coins);
            Check.due("what it has", x.along(0, 1), Math.min(70, coins));
            Check.due("what is paid to it", x.along(1, 0), Math.min(70, coins));
        }
        x.call(1, 50);
        x.scrip(1, 0, 1);
        x.coin(1, 35);
        Check.due("and that is paid on", x.along(0, 0), 35);
        x.coin(0, 20);
        Check.due("up to what it owes", x.along(0, 0), 50);
        Check.due("settle", x.settle(), 2 + (1 << 8));
        Check.due("the rest stays", x.purse(0, 0), 5);
        Check.due("the last of all", x.purse(1, 1), 50);
        LinesPromised y = Check.fourSchemes();
        y.coin(0, 60);
        y.lend(0, 0, 60);
        y.scrip(0, 1, 1);
        y.coin(1, 9);
        y.call(0, 9);
        Check.due("no more than it owes", y.along(1, 0), 60);
        y.settle();
        Check.due("the rest stays", y.purse(1, 0), 9);
    }

    private static void cut() {
        Says.term(6, "to each it OWES: that times what it OWES it, by all that it OWES, cut.");
        for (int coins = 0; coins <= 30; coins++) {
            LinesPromised x = Check.fourSchemes();
            x.scrip(0, 0, 2);
            x.scrip(1, 0, 3);
            x.scrip(2, 0, 5);
            x.call(0, 3);
            x.call(1, 3);
            x.call(2, 3);
            x.coin(0, coins);
            int[] due = {coins * 6 / 30, coins * 9 / 30, coins * 15 / 30};
            Check.due("along", x.along(0, 0), due[0] + due[1] + due[2]);
            Check.due("settle", x.settle(), coins < 30 ? 1 : 0);
            for (int i = 0; i < 3; i++) Check.due("of " + coins + " coins", x.purse(1, i), due[i]);
            Check.due("what was cut stays", x.purse(0, 0), coins - due[0] - due[1] - due[2]);
        }
        LinesPromised y = Check.fourSchemes();
        Check.order(y, "call 999;gap 0", 0, 0);
        y.scrip(3, 0, 23);
        y.scrip(0, 0, 20);
        for (int i = 0; i < 40; i++) y.call(i % 2 == 0 ? 0 : 3, 999);
        y.coin(0, 99999);
        long all = 20L * 999 * 43;
        Check.due("far more than an int holds, times", y.along(0, 0), 99999L * 399600 / all + 99999L * 459540 / all);
    }

    /** A circle of two: with one coin each gives the other one more in every second round. */
    private static void rounds() {
        Says.term(6, "THE PAYMENTS: from none paid on, in rounds, each by what was paid in the one ahead,"
            + " till nothing changes (300 rounds at most).");
        LinesPromised still = indebted(1000);
        still.scrip(0, 0, 20);
        still.call(0, 50);
        Check.due("from none on nothing comes of nothing", still.along(0, 0), 0);
        Check.due("from none on nothing comes of nothing", still.along(1, 0), 0);
        LinesPromised x = indebted(1000);
        x.coin(0, 1);
        x.scrip(0, 0, 20);
        x.call(0, 50);
        Check.due("behind 300 rounds", x.along(0, 0), 150);
        Check.due("behind 300 rounds", x.along(1, 0), 150);
        LinesPromised y = indebted(298);
        y.coin(0, 1);
        y.scrip(0, 0, 6);
        y.call(0, 50);
        Check.due("till the scheme has paid all 149 of them", y.along(1, 0), 150);
        LinesPromised z = indebted(40);
        z.coin(0, 1);
        z.scrip(0, 0, 20);
        z.call(0, 50);
        Check.due("till nothing changes", z.along(0, 0), 41);
        Check.due("till nothing changes", z.along(1, 0), 40);
        Says.term(6, "Then they are done.");
        Check.due("both could not", x.settle(), 1 + (1 << 8));
        Check.due("as many came as went", x.purse(0, 0), 1);
        Check.due("as many came as went", x.purse(1, 0), 0);
        Check.due("the holder could not", z.settle(), 1);
        Check.due("all went", z.purse(0, 0), 0);
        Check.due("what is over", z.purse(1, 0), 1);
    }

    private static void fallenHolder() {
        Says.term(6, "A HOLDER that could not pay all is FALLEN: its SHARES of the SCHEMES whose CALLS it OWED are the SCHEMES' again.");
        LinesPromised x = Check.fourSchemes();
        x.scrip(0, 0, 2);
        x.scrip(1, 0, 3);
        x.scrip(2, 0, 4);
        x.scrip(0, 1, 1);
        x.call(0, 10);
        x.call(1, 1);
        x.coin(1, 10);
        x.coin(0, 22);
        Check.due("one coin short", x.settle(), 1);
        Check.due("of the one", x.held(0, 0), 0);
        Check.due("of the other", x.held(1, 0), 0);
        Check.due("of one that called none", x.held(2, 0), 4);
        Check.due("of another holder", x.held(0, 1), 1);
        Check.due("the scheme's again", x.held(0, 8), 19);
        Check.due("the scheme's again", x.held(1, 8), 21);
        Check.due("it may take some again", x.scrip(0, 0, 19), 19);
        LinesPromised z = Check.fourSchemes();
        z.scrip(2, 5, 2);
        z.scrip(3, 5, 3);
        z.scrip(3, 6, 4);
        z.call(3, 1);
        z.coin(6, 4);
        Check.due("the sixth alone", z.settle(), 32);
        Check.due("of the last scheme", z.held(3, 5), 0);
        Check.due("of another", z.held(2, 5), 2);
        Check.due("of the next holder", z.held(3, 6), 4);
        LinesPromised y = Check.fourSchemes();
        y.scrip(0, 0, 2);
        y.call(0, 10);
        y.coin(0, 20);
        Check.due("just enough", y.settle(), 0);
        Check.due("they stay", y.held(0, 0), 2);
    }

    private static void fallenForGood() {
        Says.term(6, "A SCHEME that could not pay all is FALLEN for good: it can't CALL, borrow, be TAKEN or dig.");
        LinesPromised x = fallenScheme();
        Check.due("fallen", x.about(0, 7), 1);
        x.dig(20);
        Check.due("call", x.call(0, 1), -3);
        Check.due("borrow", x.lend(0, 0, 1), -3);
        Check.due("be taken", x.scrip(0, 1, 1), -3);
        int left = x.last(8, 0);
        Check.holds("yards are left", left > 0);
        Check.due("settle again", x.settle(), 0);
        Check.due("for good", x.about(0, 7), 1);
        Check.due("others aren't", x.about(1, 7), 0);
        Check.due("another's call", x.call(1, 1), 13);
        Check.due("shares stay", x.held(0, 0), 4);
        x.ask(0, 0, 4, 2, false);
        x.ask(0, 1, 4, 2, true);
        Check.due("they can still be sold", x.price(0), 4);
        // three lenders, four coins: each has one, the fourth is cut and stays, so that there would be coins to dig with
        LinesPromised y = Check.fourBills();
        for (int holder = 0; holder < 3; holder++) {
            y.coin(holder, 2);
            y.lend(0, holder, 2);
        }
        y.grant(8);
        y.man(1);
        y.coin(3, 2);
        y.lend(0, 3, 2);
        y.dig(1);
        Check.due("three yards are dug, two coins are left", y.purse(1, 0), 2);
        Check.due("two of eight owed: each has none", y.settle(), 1 << 8);
        Check.due("they stay", y.purse(1, 0), 2);
        y.dig(1);
        Check.due("but it can't dig", y.last(8, 0), 27);
        Check.due("they stay", y.purse(1, 0), 2);
    }

    private static void call() {
        Says.promise(34, "A CALL: its PAPER.");
        LinesPromised x = Check.fourSchemes();
        for (int i = 0; i < 4; i++) Check.due("call", x.call(i, 1 + i), 4 + i);
        for (int i = 0; i < 4; i++) Check.due("pence", x.about(4 + i, 6), 1 + i);
        Says.promise(34, "NONE: no SCHEME; BAD: pence; STATE: gap, FALLEN; FULL.");
        Check.range("scheme", Check::fourSchemes, (y, n) -> y.call(n, 1), 0, 3, -1);
        Check.due("no scheme, ahead of pence", x.call(4, 0), -1);
        Check.due("pence ahead of gap", x.call(0, 51), -2);
        Check.due("gap", x.call(0, 50), -3);
        x.scheme(0, 1, 0, 1);
        for (int i = 9; i < 60; i++) x.claim(0, 1);
        Check.due("full", x.call(8, 1), -4);
        Check.due("gap ahead of full", x.call(0, 1), -3);
        Check.due("pence ahead of full", x.call(8, 51), -2);
        Check.due("no scheme, ahead of full", x.call(4, 1), -1);
        LinesPromised fallen = fallenScheme();
        Check.due("pence ahead of fallen", fallen.call(0, 0), -2);
        Check.due("fallen", fallen.call(0, 1), -3);
        for (int i = 13; i < 60; i++) fallen.claim(0, 1);
        Check.due("fallen ahead of full", fallen.call(0, 1), -3);
    }

    private static void lend() {
        Says.promise(35, "A LOAN: its PAPER.");
        LinesPromised x = Check.fourSchemes();
        x.coin(7, 100);
        for (int i = 0; i < 4; i++) Check.due("loan", x.lend(i, 7, 1 + i), 4 + i);
        for (int i = 0; i < 4; i++) Check.due("coins", x.about(4 + i, 6), 1 + i);
        Says.promise(35, "NONE: no SCHEME, holder; BAD: coins; STATE: FALLEN, the HOLDER has not so many; FULL.");
        Check.range("scheme", () -> {
            LinesPromised y = Check.fourSchemes();
            y.coin(0, 9);
            return y;
        }, (y, n) -> y.lend(n, 0, 1), 0, 3, -1);
        Check.due("no holder, ahead of coins", x.lend(0, 8, 0), -1);
        Check.due("no scheme, ahead of coins", x.lend(4, 0, 10000), -1);
        Check.due("coins ahead of not so many", x.lend(0, 0, 10000), -2);
        Check.due("not so many", x.lend(0, 7, 91), -3);
        for (int i = 8; i < 60; i++) x.claim(0, 1);
        Check.due("full", x.lend(0, 7, 90), -4);
        Check.due("nothing went", x.purse(0, 7), 90);
        Check.due("nothing came", x.purse(1, 0), 1);
        Check.due("not so many, ahead of full", x.lend(0, 7, 91), -3);
        Check.due("coins ahead of full", x.lend(0, 7, 0), -2);
        LinesPromised fallen = fallenScheme();
        Check.due("fallen", fallen.lend(0, 0, 1), -3);
        Check.due("coins ahead of fallen", fallen.lend(0, 0, 0), -2);
        Check.due("nothing went", fallen.purse(0, 0), 500);
        for (int i = 13; i < 60; i++) fallen.claim(0, 1);
        Check.due("fallen ahead of full", fallen.lend(0, 0, 1), -3);
    }

    private static void settle() {
        Says.promise(36, "SETTLED: HOLDERS that could not pay all, as bits 0 .. 7, and SCHEMES that could not"
            + " (by their numbers among SCHEMES, from bit 8 on).");
        for (int bits = 0; bits < 256; bits++) {
            LinesPromised x = Check.fourSchemes();
            x.call(0, 1);
            for (int holder = 0; holder < 8; holder++) {
                x.scrip(0, holder, 2);
                x.coin(holder, (bits >> holder & 1) == 0 ? 2 : 1);
            }
            Check.due("holders", x.settle(), bits);
        }
        LinesPromised y = Check.fourTowns();
        y.claim(0, 1);
        y.coin(0, 99);
        y.man(99);
        for (int i = 0; i < 12; i++) {
            int scheme = y.scheme(0, 1, 0, 1);
            Check.due("schemes and other papers by turns", scheme, i == 0 ? 1 : 3 + 3 * i);
            Check.plan(y, scheme, 0, 1, 2, 3);
            if (i == 0 || i == 11) {
                y.lend(scheme, 0, 2);
                y.grant(y.bill(scheme + 1));
            } else {
                y.claim(0, 1);
            }
            if (i == 0) y.claim(0, 1);
        }
        y.dig(1);
        Check.due("the first and the last of twelve", y.settle(), 1 << 8 | 1 << 19);
    }

    private static void along() {
        Says.promise(37, "What would be paid (all the cut ones together) by a HOLDER (what 0), a SCHEME (1: its PAPER),"
            + " if it were SETTLED now. NONE.");
        LinesPromised x = Check.fourBills();
        x.coin(0, 10);
        x.coin(1, 31);
        x.scheme(0, 1, 0, 9);
        x.scrip(12, 1, 3);
        x.scrip(0, 1, 3);
        x.call(12, 10);
        x.call(0, 1);
        x.lend(12, 0, 10);
        Check.due("holder: 28 and 2, cut", x.along(0, 1), 30);
        Check.due("scheme by its paper", x.along(1, 12), 10);
        Check.due("not by its number among schemes", x.along(1, 4), -1);
        Check.due("who owes nothing", x.along(0, 0), 0);
        Check.due("who owes nothing", x.along(1, 0), 0);
        Check.due("nothing is paid by it", x.purse(0, 1), 31);
        Check.due("nothing is settled by it", x.about(13, 7), 0);
        Check.due("asked again", x.along(0, 1), 30);
        Check.range("holder", Check::fourSchemes, (y, n) -> y.along(0, n), 0, 7, -1);
        Check.range("scheme", Check::fourSchemes, (y, n) -> y.along(1, n), 0, 3, -1);
        Check.range("what", Check::fourSchemes, (y, n) -> y.along(n, 0), 0, 1, -1);
    }
}
