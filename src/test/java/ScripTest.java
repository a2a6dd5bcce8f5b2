/** Promises 28 to 37: shares, purses, what is offered and asked, calls, loans and how they are settled. */
public final class ScripTest {
    public static void main(String[] args) {
        taken();
        purses();
        offered();
        trade();
        tradeOut();
        calls();
        callsByTheRule();
        loans();
        settled();
        shared();
        inACircle();
        fallenScheme();
        Check.end();
    }

    private static void taken() {
        LinesPromised x = Check.fourSchemes();
        Check.due("no scheme", x.scrip(4, 0, 1), -1);
        Check.due("no holder", x.scrip(0, 8, 0), -1);
        Check.due("no holder", x.scrip(0, -1, 1), -1);
        Check.due("n", x.scrip(0, 0, 0), -2);
        Check.due("n", x.scrip(0, 0, 100), -2);
        Check.due("not so many", x.scrip(0, 0, 21), -3);
        Check.due("all that it has", x.scrip(1, 0, 21), 21);
        Check.due("none left", x.scrip(1, 1, 1), -3);
        Check.due("taken", x.scrip(0, 7, 5), 5);
        Check.due("taken again", x.scrip(0, 7, 6), 11);
        Check.due("held", x.held(0, 7), 11);
        Check.due("the scheme's", x.held(0, 8), 9);
        Check.due("the scheme's", x.held(1, 8), 0);
        Check.due("of another", x.held(1, 7), 0);
        Check.due("no holder", x.held(0, 9), -1);
        Check.due("no holder", x.held(0, -1), -1);
        Check.due("no scheme", x.held(9, 0), -1);
    }

    private static void purses() {
        LinesPromised x = Check.fourBills();
        x.coin(3, 50);
        x.lend(2, 3, 20);
        Check.due("holder", x.purse(0, 3), 30);
        Check.due("scheme", x.purse(1, 2), 20);
        Check.due("scheme", x.purse(1, 0), 0);
        Check.due("no holder", x.purse(0, 8), -1);
        Check.due("no scheme", x.purse(1, 4), -1);
        Check.due("no paper", x.purse(1, -1), -1);
        Check.due("no what", x.purse(2, 0), -1);
        Check.due("no what", x.purse(-1, 0), -1);
    }

    private static void offered() {
        LinesPromised x = Check.fourSchemes();
        Check.due("no scheme", x.ask(4, 0, 1, 1, true), -1);
        Check.due("no holder", x.ask(0, 8, 0, 1, true), -1);
        Check.due("n", x.ask(0, 0, 0, 1, true), -2);
        Check.due("n", x.ask(0, 0, 100, 1, false), -2);
        Check.due("price", x.ask(0, 0, 1, 0, true), -2);
        Check.due("price", x.ask(0, 0, 1, 1000, false), -2);
        for (int i = 1; i <= 40; i++) Check.due("ask", x.ask(i % 4, 7, 99, 999, i % 3 == 0), i);
        Check.due("bad ahead of full", x.ask(0, 0, 1, 0, true), -2);
        Check.due("full", x.ask(0, 0, 1, 1, true), -4);
        Check.due("trade", x.price(1), 0);
        Check.due("those of one scheme are out", x.count(9), 30);
        Check.due("no price yet", x.read(1), -5);
        Check.due("no scheme", x.read(4), -1);
        Check.due("no scheme", x.price(4), -1);
    }

    private static void trade() {
        LinesPromised x = Check.fourSchemes();
        x.coin(2, 1000);
        x.coin(3, 1000);
        x.scrip(0, 0, 8);
        x.scrip(0, 1, 8);
        x.ask(0, 0, 4, 30, false);
        x.ask(0, 1, 4, 20, false);
        x.ask(0, 0, 4, 20, false);
        x.ask(0, 2, 3, 25, true);
        x.ask(0, 3, 3, 40, true);
        x.ask(0, 2, 3, 40, true);
        x.ask(1, 2, 3, 40, true);
        // 1 sells 3 to 3 and 1 to 2 at 20; 0 sells 2 to 2 and 2 to 2 at 20; at 30 nobody asks 30 any more
        Check.due("trade", x.price(0), 8);
        Check.due("read", x.read(0), 20);
        Check.due("held", x.held(0, 0), 4);
        Check.due("held", x.held(0, 1), 4);
        Check.due("held", x.held(0, 2), 5);
        Check.due("held", x.held(0, 3), 3);
        Check.due("purse", x.purse(0, 0), 80);
        Check.due("purse", x.purse(0, 1), 80);
        Check.due("purse", x.purse(0, 2), 900);
        Check.due("purse", x.purse(0, 3), 940);
        Check.due("one of another scheme stands", x.count(9), 1);
        Check.due("no more to trade", x.price(0), 0);
        Check.due("read again", x.read(0), 20);
        x.ask(0, 1, 1, 33, false);
        x.ask(0, 3, 1, 33, true);
        Check.due("at one price", x.price(0), 1);
        Check.due("read", x.read(0), 33);
        Check.due("of the other scheme none", x.read(1), -5);
    }

    private static void tradeOut() {
        LinesPromised x = Check.fourSchemes();
        x.coin(2, 50);
        x.coin(3, 500);
        x.scrip(0, 0, 2);
        x.scrip(0, 1, 9);
        x.ask(0, 0, 5, 10, false);
        x.ask(0, 1, 9, 20, false);
        x.ask(0, 2, 9, 90, true);
        x.ask(0, 3, 9, 80, true);
        // 0 has but 2 of 5; 2 has then 30 coins, for one at 20; the rest goes to 3
        Check.due("trade", x.price(0), 2 + 1 + 8);
        Check.due("held", x.held(0, 0), 0);
        Check.due("held", x.held(0, 2), 3);
        Check.due("held", x.held(0, 3), 8);
        Check.due("purse", x.purse(0, 2), 10);
        Check.due("purse", x.purse(0, 3), 500 - 160);
        LinesPromised y = Check.fourSchemes();
        y.scrip(0, 1, 5);
        y.coin(3, 100);
        y.ask(0, 0, 5, 10, false);
        y.ask(0, 1, 5, 11, false);
        y.ask(0, 2, 5, 50, true);
        y.ask(0, 3, 5, 40, true);
        Check.due("neither can: the offered is out, then the asked", y.price(0), 5);
        Check.due("who can buys of who can", y.purse(0, 3), 45);
        y.ask(0, 3, 3, 7, false);
        y.ask(0, 3, 5, 9, true);
        Check.due("with oneself", y.price(0), 3);
        Check.due("nothing is other", y.held(0, 3), 5);
        Check.due("nothing is other", y.purse(0, 3), 45);
        Check.due("but the price", y.read(0), 7);
        y.ask(0, 3, 9, 1, false);
        y.ask(0, 3, 99, 1, true);
        Check.due("with oneself till none are left", y.price(0), 9);
        y.scrip(1, 4, 1);
        y.coin(4, 1);
        for (int i = 0; i < 40; i++) y.ask(1, 4, 99, 1, i % 2 == 0);
        Check.due("one by one", y.price(1), 20 * 99);
    }

    private static void calls() {
        LinesPromised x = Check.fourSchemes();
        Check.due("no scheme", x.call(4, 0), -1);
        Check.due("pence", x.call(0, 0), -2);
        Check.due("pence", x.call(0, 51), -2);
        Check.due("call", x.call(0, 50), 4);
        Check.due("a gap", x.call(0, 1), -3);
        Check.due("bad ahead of the gap", x.call(0, 51), -2);
        Check.due("another scheme", x.call(1, 1), 5);
        x.dig(9);
        Check.due("a gap", x.call(0, 1), -3);
        x.dig(1);
        Check.due("ten days behind", x.call(0, 1), 6);
        x.dig(9);
        Check.due("behind the latest", x.call(0, 1), -3);
    }

    private static void callsByTheRule() {
        LinesPromised x = Check.fourSchemes();
        Check.order(x, "call 60;gap 0", 0, 0);
        Check.order(x, "call 0;gap 2", 1, 1);
        Check.order(x, "call 999", 2, 2);
        Check.due("by the rule", x.call(0, 60), 4);
        Check.due("no gap", x.call(0, 60), 5);
        Check.due("by the rule", x.call(0, 61), -2);
        x.dig(1);
        Check.due("none of any pence", x.call(0, 1), -2);
        x.dig(1);
        Check.due("two days", x.call(0, 999), 6);
        x.dig(1);
        Check.due("one day", x.call(0, 999), -3);
    }

    private static void loans() {
        LinesPromised x = Check.fourSchemes();
        x.coin(5, 9999);
        Check.due("no scheme", x.lend(4, 0, 0), -1);
        Check.due("no holder", x.lend(0, 8, 0), -1);
        Check.due("coins", x.lend(0, 5, 0), -2);
        Check.due("coins", x.lend(0, 5, 10000), -2);
        Check.due("it has not so many", x.lend(0, 4, 1), -3);
        Check.due("lend", x.lend(0, 5, 9999), 4);
        Check.due("gone", x.purse(0, 5), 0);
        Check.due("come", x.purse(1, 0), 9999);
        Check.due("it would be paid", x.along(1, 0), 9999);
        Check.due("settle", x.settle(), 0);
        Check.due("back", x.purse(0, 5), 9999);
        Check.due("settled for good", x.along(1, 0), 0);
        Check.due("along of no holder", x.along(0, 8), -1);
        Check.due("along of no scheme", x.along(1, 4), -1);
        Check.due("along of no what", x.along(2, 0), -1);
        Check.due("along of no what", x.along(-1, 0), -1);
    }

    private static void settled() {
        LinesPromised x = Check.fourSchemes();
        x.scrip(0, 0, 3);
        x.scrip(0, 1, 4);
        x.scrip(1, 1, 5);
        x.scrip(2, 1, 6);
        x.coin(0, 30);
        x.coin(1, 100);
        x.call(0, 10);
        Check.order(x, "gap 0", 0, 0);
        x.call(0, 5);
        x.call(1, 20);
        // 0 owes 45 and has 30; 1 owes 60 and 100 and has 100: 37 and 62
        Check.due("along", x.along(0, 0), 30);
        Check.due("along, cut", x.along(0, 1), 99);
        Check.due("along changes nothing", x.purse(0, 1), 100);
        Check.due("settle", x.settle(), 3);
        Check.due("purse", x.purse(0, 0), 0);
        Check.due("the cut stays", x.purse(0, 1), 1);
        Check.due("scheme", x.purse(1, 0), 30 + 37);
        Check.due("scheme", x.purse(1, 1), 62);
        Check.due("shares go back", x.held(0, 0), 0);
        Check.due("shares go back", x.held(0, 1), 0);
        Check.due("shares go back", x.held(1, 1), 0);
        Check.due("not of schemes that called none", x.held(2, 1), 6);
        Check.due("the scheme's again", x.held(0, 8), 20);
        Check.due("settled once", x.settle(), 0);
        Check.due("a holder goes on", x.scrip(0, 0, 2), 2);
        x.coin(0, 14);
        x.call(0, 7);
        Check.due("just enough", x.settle(), 0);
        Check.due("held", x.held(0, 0), 2);
        x.scrip(0, 0, 1);
        x.call(0, 50);
        x.scrip(0, 0, 1);
        x.coin(0, 200);
        Check.due("of the shares when it is settled", x.along(0, 0), 200);
        x.coin(0, 199);
        Check.due("one short", x.settle(), 1);
    }

    private static void shared() {
        LinesPromised x = Check.fourSchemes();
        x.man(9);
        x.coin(0, 100);
        x.coin(1, 100);
        x.lend(3, 0, 20);
        x.lend(3, 1, 31);
        x.lend(3, 0, 50);
        Check.plan(x, 3, 20, 10, 0);
        x.bill(7);
        x.bill(8);
        for (int paper = 0; paper < x.count(1); paper++) x.grant(paper);
        x.dig(1);
        int left = x.purse(1, 3);
        Check.due("the scheme has dug 20 yards", left, 101 - 40);
        // 70 and 31 owed of 61: 42 and 18
        Check.due("along", x.along(1, 3), 42 + 18);
        Check.due("the scheme falls", x.settle(), 1 << 11);
        Check.due("the lender", x.purse(0, 0), 30 + 42);
        Check.due("the lender", x.purse(0, 1), 69 + 18);
        Check.due("the scheme", x.purse(1, 3), 1);
        Check.due("fallen", x.about(3, 7), 1);
    }

    /** A holder owes a scheme what the scheme owes the holder: with one coin they get on by one in two rounds. */
    private static void inACircle() {
        LinesPromised x = Check.fourBills();
        Check.due("grant", x.grant(8), 1);
        x.man(99);
        x.coin(0, 60 + 1);
        x.lend(0, 0, 60);
        x.dig(1);
        Check.due("all is dug up", x.purse(1, 0), 0);
        x.scrip(0, 0, 20);
        x.call(0, 50);
        // the scheme owes 60, the holder 1000: 1, 2, .. in every second round till the scheme has paid all
        Check.due("along", x.along(1, 0), 60);
        Check.due("along", x.along(0, 0), 61);
        LinesPromised y = Check.fourBills();
        Check.order(y, "gap 0", 0, 0);
        y.man(99);
        y.coin(0, 1001);
        y.lend(0, 0, 1000);
        y.land(1, 0, 99);
        y.land(2, 0, 0);
        y.land(1, 1, 1);
        y.land(3, 1, 1);
        y.grant(8);
        y.dig(10);
        int dug = 2 * (30 + 6 * 99 + 40);
        Check.due("less than all", y.last(8, 0) > 0 ? 1 : 0, 1);
        Check.due("all its coins are dug up", y.purse(1, 0), 0);
        Check.due("yards", y.last(8, 0), dug / 2 - 500);
        y.scrip(0, 0, 20);
        y.call(0, 50);
        Check.due("300 rounds: the scheme pays 150", y.along(1, 0), 150);
        Check.due("300 rounds: the holder pays 150", y.along(0, 0), 150);
        Check.due("settle", y.settle(), 1 + (1 << 8));
        Check.due("purse", y.purse(0, 0), 1);
        Check.due("purse", y.purse(1, 0), 0);
    }

    private static void fallenScheme() {
        LinesPromised x = Check.fourBills();
        x.coin(0, 100);
        x.scrip(0, 1, 3);
        x.grant(8);
        x.man(2);
        x.lend(0, 0, 10);
        x.dig(1);
        Check.due("dug", x.last(8, 0), 25);
        Check.due("settle", x.settle(), 1 << 8);
        x.coin(1, 100);
        Check.due("it can't call", x.call(0, 1), -3);
        Check.due("it can't borrow", x.lend(0, 0, 1), -3);
        Check.due("it can't be taken", x.scrip(0, 0, 1), -3);
        Check.due("bad ahead", x.scrip(0, 0, 0), -2);
        Check.due("others can", x.call(1, 1), 13);
        Check.due("shares stay", x.held(0, 1), 3);
        x.ask(0, 1, 3, 5, false);
        x.ask(0, 0, 3, 5, true);
        Check.due("shares still go", x.price(0), 3);
        LinesPromised y = Check.fourBills();
        y.grant(8);
        y.man(1);
        for (int holder = 0; holder < 8; holder++) {
            y.coin(holder, 3);
            y.lend(0, holder, 3);
        }
        y.dig(1);
        Check.due("of 24 it has 18 and pays 2 of 3", y.settle(), 1 << 8);
        Check.due("what was cut stays", y.purse(1, 0), 2);
        Check.due("left", y.last(8, 0), 27);
        y.dig(1);
        Check.due("it can't dig for that", y.last(8, 0), 27);
        Check.due("for good", x.settle(), 0);
        Check.due("for good", x.about(0, 7), 1);
    }
}
