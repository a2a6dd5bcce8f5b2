/** The sentences of term 2, of bills in term 5, and of promises 10 and 17 to 23, each with a test of its own. */
final class SaysPapers {
    private SaysPapers() {
    }

    static void all() {
        numbers();
        kinds();
        under();
        worths();
        brought();
        facts();
        letOnADay();
        barred();
        granted();
        scheme();
        claim();
        bill();
        hear();
        bar();
        grant();
        cast();
        about();
        aboutMarks();
    }

    /** Papers 0 scheme (7 shares), 1 plan (3 cells), 2 bill, 3 call (5 pence), 4 loan (6 coins), 5 claim (9 coins). */
    private static LinesPromised oneOfEach() {
        LinesPromised x = new LinesPromised();
        x.town(10, 3);
        x.town(12, 4);
        x.coin(6, 6);
        x.dig(2);
        x.scheme(0, 1, 1, 7);
        Check.plan(x, 0, 10, 11, 12);
        x.bill(1);
        x.call(0, 5);
        x.lend(0, 6, 6);
        Check.due("claim", x.claim(11, 9), 5);
        return x;
    }

    private static void numbers() {
        Says.term(2, "PAPERS are numbered from 0 on, 60 at most (SCHEMES 12),");
        LinesPromised x = oneOfEach();
        x.coin(6, 600);
        for (int i = 6; i < 17; i++) Check.due("eleven schemes more", x.scheme(0, 1, 0, 1), i);
        Check.due("a thirteenth", x.scheme(0, 1, 0, 1), -4);
        Check.plan(x, 0, 10, 11, 12);
        for (int i = 18; i < 59; i++) Check.due("other papers still come", x.claim(0, 1), i);
        Check.due("the last", x.call(6, 1), 59);
        Check.due("no scheme", x.scheme(0, 1, 0, 1), -4);
        Check.due("no plan", x.chain(0, 2, 3), -4);
        Check.due("no bill", x.bill(17), -4);
        Check.due("no call", x.call(7, 1), -4);
        Check.due("no loan", x.lend(7, 6, 1), -4);
        Check.due("no claim", x.claim(0, 1), -4);
        Check.due("sixty", x.count(1), 60);
        Check.due("the last is there", x.about(59, 0), 4);
        Check.due("none behind", x.about(60, 0), -1);
        LinesPromised y = new LinesPromised();
        y.town(0, 0);
        y.town(1, 0);
        for (int i = 0; i < 59; i++) y.claim(0, 1);
        Check.due("the sixtieth is a scheme", y.scheme(0, 1, 0, 1), 59);
        Check.due("one more", y.scheme(0, 1, 0, 1), -4);
        Check.due("its shares", y.scrip(59, 0, 1), 1);
        LinesPromised z = Check.fourSchemes();
        Check.plan(z, 3, 20, 10, 0);
        Check.plan(z, 0, 0, 1, 2, 3);
        for (int i = 6; i < 58; i++) z.claim(0, 1);
        Check.due("bill", z.bill(4), 58);
        Check.due("the sixtieth is a bill", z.bill(5), 59);
        Check.due("they bar", z.bar(59, 58), 1);
        Check.due("granted", z.grant(59), 1);
        Check.due("barred by the last of all", z.grant(58), -3);
        Check.due("marked", z.about(59, 7), 1);
        Check.due("but no other", z.about(27, 7), 0);
    }

    private static void kinds() {
        LinesPromised x = oneOfEach();
        Says.term(2, "of KINDS: 0 PAPER (none is just that);");
        for (int paper = 0; paper < 6; paper++) {
            Check.holds("paper " + paper + " is more", x.about(paper, 0) > 0);
            Check.holds("each is a paper", x.cast(paper, 0) > 0);
        }
        Says.term(2, "1 SCHEME under PAPER: between two TOWNS, a GAUGE (0, 1), SHARES (1 .. 99);");
        Check.due("kind", x.about(0, 0), 1);
        Check.due("from", x.about(0, 3), 0);
        Check.due("to", x.about(0, 4), 1);
        Check.range("gauge", Check::fourTowns, (y, n) -> y.scheme(0, 1, n, 1), 0, 1, -2);
        Check.range("shares", Check::fourTowns, (y, n) -> y.scheme(0, 1, 0, n), 1, 99, -2);
        Says.term(2, "2 PLAN under SCHEME, of a SCHEME;");
        Check.due("kind", x.about(1, 0), 2);
        Check.due("of", x.about(1, 1), 0);
        Check.due("of a scheme alone", x.chain(1, 2, 3), -1);
        Says.term(2, "3 BILL under SCHEME, of a PLAN;");
        Check.due("kind", x.about(2, 0), 3);
        Check.due("of", x.about(2, 1), 1);
        Check.due("of a plan alone", x.bill(0), -1);
        Check.due("of a plan alone", x.bill(2), -1);
        Says.term(2, "4 CALL under PAPER, of a SCHEME;");
        Check.due("kind", x.about(3, 0), 4);
        Check.due("of", x.about(3, 1), 0);
        Check.due("of a scheme alone", x.call(1, 1), -1);
        Says.term(2, "5 LOAN under CALL, of a SCHEME;");
        Check.due("kind", x.about(4, 0), 5);
        Check.due("of", x.about(4, 1), 0);
        Check.due("of a scheme alone", x.lend(3, 0, 1), -1);
        Says.term(2, "6 CLAIM under PAPER, of a CELL, so many COINS.");
        Check.due("kind", x.about(5, 0), 6);
        Check.due("cell", x.about(5, 3), 11);
        Check.due("coins", x.about(5, 6), 9);
    }

    private static void under() {
        Says.promise(22, "A PAPER taken for a KIND k (0 .. 6), or one under that: its WORTH.");
        LinesPromised x = oneOfEach();
        int[] worths = {17, 20, 40, 9, 19, 10};
        String[] fits = {"01", "012", "013", "04", "045", "06"};
        for (int paper = 0; paper < 6; paper++) {
            for (int k = 0; k < 7; k++) {
                boolean is = fits[paper].indexOf('0' + k) >= 0;
                Check.due("paper " + paper + " as " + k, x.cast(paper, k), is ? worths[paper] : -13);
            }
        }
    }

    private static void worths() {
        Says.term(2, "WORTH of a PAPER: PAPER 1;");
        LinesPromised x = new LinesPromised();
        x.claim(0, 1);
        Check.due("1 and its coin", x.cast(0, 0), 2);
        Says.term(2, "SCHEME 10 and its SHARES;");
        Check.due("scheme of 1", schemeOf(1).cast(0, 1), 11);
        Check.due("scheme of 99", schemeOf(99).cast(0, 1), 109);
        LinesPromised y = schemeOf(99);
        y.scrip(0, 0, 99);
        Check.due("though others have them", y.cast(0, 1), 109);
        Says.term(2, "PLAN as a SCHEME (its SCHEME's SHARES), and as many as CELLS in it;");
        Check.due("plan", Check.plan(y, 0), 1);
        Check.due("of no cells", y.cast(1, 2), 109);
        Check.plan(y, 0, 0, 1, 79);
        Check.due("torn behind two", y.cast(2, 2), 111);
        Check.plan(y, 0, 0, 1, 2, 3);
        Check.due("not of what is behind the second town", y.cast(3, 2), 112);
        Says.term(2, "BILL twice what its PLAN is WORTH;");
        Check.due("bill", y.bill(3), 4);
        Check.due("bill", y.cast(4, 3), 224);
        Says.term(2, "CALL 3 more than a PAPER and its pence;");
        Check.order(y, "call 999;gap 0", 0, 0);
        Check.due("call", y.call(0, 1), 5);
        Check.due("of 1", y.cast(5, 4), 5);
        Check.due("call", y.call(0, 999), 6);
        Check.due("of 999", y.cast(6, 4), 1003);
        Says.term(2, "LOAN twice a CALL's (its COINS as pence) less 1;");
        y.coin(0, 10000);
        Check.due("loan", y.lend(0, 0, 1), 7);
        Check.due("of 1", y.cast(7, 5), 9);
        Check.due("loan", y.lend(0, 0, 9999), 8);
        Check.due("of 9999", y.cast(8, 5), 20005);
        Says.term(2, "CLAIM as a PAPER and its COINS.");
        Check.due("claim", y.claim(0, 9999), 9);
        Check.due("of 9999", y.cast(9, 6), 10000);
    }

    /** Towns in cells 0 and 2 and a scheme of so many shares. */
    private static LinesPromised schemeOf(int shares) {
        LinesPromised x = new LinesPromised();
        x.town(0, 0);
        x.town(2, 0);
        Check.due("scheme", x.scheme(0, 1, 0, shares), 0);
        return x;
    }

    private static void brought() {
        Says.term(5, "A BILL is brought TODAY for a PLAN that isn't TORN, is CLOSE and not STEEP,"
            + " by stroke at the latest (by THE RULE of TODAY), and has no BILL yet.");
        LinesPromised x = schemeOf(1);
        int torn = Check.plan(x, 0, 0, 1);
        int none = Check.plan(x, 0);
        int whole = Check.plan(x, 0, 0, 1, 2);
        Check.due("torn", x.bill(torn), -3);
        Check.due("of no cells", x.bill(none), -3);
        x.land(2, 0, 3);
        Check.due("off by 3", x.bill(whole), -3);
        Check.order(x, "close 3", 1, 0);
        Check.due("by the rule of today, not of tomorrow", x.bill(whole), -3);
        x.dig(1);
        Check.order(x, "slope 2", 1, 1);
        Check.due("steep", x.bill(whole), -3);
        Check.order(x, "slope 3;stroke 0", 1, 2);
        Check.due("behind the stroke", x.bill(whole), -3);
        Check.order(x, "stroke 1", 1, 3);
        Check.order(x, "stroke 0", 2, 4);
        Check.due("by the stroke of today", x.bill(whole), 4);
        Check.due("it came today", x.about(4, 2), 1);
        Check.due("it has one", x.bill(whole), -3);
        LinesPromised y = schemeOf(1);
        int early = Check.plan(y, 0, 0, 1, 2);
        Check.order(y, "stroke 0", 0, 0);
        Check.due("on day 0 by stroke 0", y.bill(early), 2);
        Check.row(y, 3, 2, 1000000);
        Check.due("plan", y.chain(0, 2, 3), 3);
        Check.due("a level is missing", y.bill(3), -3);
        Check.due("another plan of the same cells", Check.plan(y, 0, 0, 1, 2), 4);
        Check.due("has none yet", y.bill(4), 5);
        LinesPromised z = schemeOf(1);
        int late = Check.plan(z, 0, 0, 1, 2);
        for (int i = 0; i < 19; i++) z.dig(50);
        z.dig(49);
        Check.due("on the last day by the usual stroke", z.bill(late), 2);
    }

    private static void let(LinesPromised x, char letter, int is) {
        for (int n = Math.max(0, is - 1); n <= is + 1; n++) {
            Check.tape(x, "let " + letter + "<" + n);
            Check.due(letter + " " + is + " is less than " + n, x.tried(1), is < n ? 1 : 0);
            Check.tape(x, "let " + letter + ">" + n);
            Check.due(letter + " " + is + " is more than " + n, x.tried(1), is > n ? 1 : 0);
        }
    }

    private static void facts() {
        Says.term(5, "It can be LET on a DAY if E of let holds:");
        LinesPromised x = schemeOf(1);
        int plan = Check.plan(x, 0, 0, 1, 2);
        Check.due("bill", x.bill(plan), 2);
        Check.due("no let", x.hear(2, 0), 1);
        Check.order(x, "let g=1", 0, 0);
        Check.due("it doesn't hold", x.hear(2, 0), 0);
        Check.order(x, "let !g=1", 0, 1);
        Check.due("it holds", x.hear(2, 0), 1);
        Says.term(5, "y YARDS of its WAY by 10,");
        int[] heights = {0, 1, 2, 4, 99};
        for (int h : heights) {
            x.land(2, 0, h);
            let(x, 'y', (20 + 3 * h) / 10);
        }
        x.land(2, 0, 0);
        Says.term(5, "t TRADE of both TOWNS together,");
        let(x, 't', 0);
        LinesPromised y = oneOfEach();
        let(y, 't', 7);
        Says.term(5, "w PARKS, r RIVERS in its WAY (TOWNS' CELLS, too),");
        let(y, 'w', 0);
        let(y, 'r', 0);
        int[] cells = {10, 11, 12};
        for (int i = 0; i < 3; i++) {
            y.land(cells[i], 1, 2);
            let(y, 'w', i + 1);
            let(y, 'r', 0);
        }
        for (int i = 0; i < 3; i++) {
            y.land(cells[i], 1, 1);
            let(y, 'w', 2 - i);
            let(y, 'r', i + 1);
        }
        y.land(21, 1, 1);
        let(y, 'r', 3);
        Says.term(5, "c COINS of all CLAIMS of CELLS in its WAY (as now),");
        let(y, 'c', 9);
        y.claim(13, 50);
        let(y, 'c', 9);
        y.claim(11, 1);
        y.claim(10, 20);
        y.claim(12, 300);
        let(y, 'c', 330);
        y.claim(12, 9999);
        Check.tape(y, "let c<999");
        Check.due("more than can be told", y.tried(1), 0);
        Check.tape(y, "let c>999");
        Check.due("more than can be told", y.tried(1), 1);
        Says.term(5, "g GAUGE.");
        Check.tape(y, "let g=1");
        Check.due("1", y.tried(1), 1);
        Check.tape(y, "let g=0");
        Check.due("not 0", y.tried(1), 0);
    }

    private static void letOnADay() {
        Says.promise(19, "Whether a BILL can be LET on a DAY: 1, 0.");
        LinesPromised x = oneOfEach();
        Check.order(x, "let g=0", 4, 0);
        Check.order(x, "let c<10", 999, 1);
        Check.due("a day that went by", x.hear(2, 0), 1);
        Check.due("the day ahead of it", x.hear(2, 3), 1);
        Check.due("that day", x.hear(2, 4), 0);
        Check.due("and on", x.hear(2, 998), 0);
        Check.due("the last day", x.hear(2, 999), 1);
        x.claim(12, 1);
        Check.due("by the claims as now", x.hear(2, 999), 0);
    }

    private static void barred() {
        Says.term(5, "Two BILLS may BAR one another.");
        for (int first = 8; first < 10; first++) {
            LinesPromised x = Check.fourBills();
            x.bar(8, 9);
            Check.due("grant", x.grant(first), 1);
            Check.due("the other way round, too", x.grant(17 - first), -3);
            Check.due("a third doesn't care", x.grant(10), 2);
        }
    }

    private static void granted() {
        Says.term(5, "GRANTED: a BILL that can be LET TODAY, isn't GRANTED, and is not BARRED by one that is.");
        LinesPromised x = Check.fourBills();
        Check.order(x, "let g=1", 0, 0);
        Check.order(x, "let g=0", 1, 1);
        Check.due("not today", x.grant(8), -3);
        Check.due("today", x.grant(9), 1);
        x.dig(1);
        Check.due("today it is another", x.grant(11), -3);
        Check.due("today", x.grant(8), 2);
        Check.due("it is", x.grant(8), -3);
        Check.due("the first is still", x.about(9, 7), 1);
        x.bar(9, 8);
        Check.due("granted ones that bar stay", x.count(6), 2);
        x.bar(10, 11);
        Check.due("barred by one that isn't granted", x.grant(10), 3);
    }

    private static void scheme() {
        Says.promise(10, "A SCHEME: its PAPER.");
        LinesPromised x = Check.fourTowns();
        x.claim(0, 1);
        for (int i = 1; i <= 12; i++) Check.due("scheme", x.scheme(i % 4, (i + 1) % 4, i % 2, i), i);
        Says.promise(10, "NONE: towns; BAD: one TOWN, gauge, shares; FULL.");
        Check.range("from", Check::fourTowns, (y, n) -> y.scheme(n, n == 3 ? 0 : 3, 0, 1), 0, 3, -1);
        Check.range("to", Check::fourTowns, (y, n) -> y.scheme(n == 3 ? 0 : 3, n, 0, 1), 0, 3, -1);
        Check.due("full", x.scheme(0, 1, 0, 1), -4);
        Check.due("shares ahead of full", x.scheme(0, 1, 0, 100), -2);
        Check.due("gauge ahead of full", x.scheme(0, 1, 2, 1), -2);
        Check.due("one town, ahead of full", x.scheme(2, 2, 0, 1), -2);
        Check.due("no town, ahead of one", x.scheme(4, 4, 0, 1), -1);
        Check.due("no town, ahead of gauge", x.scheme(0, 4, 2, 1), -1);
        Check.due("no town, ahead of shares", x.scheme(-1, 0, 0, 0), -1);
        Check.due("refused ones are none", x.count(1), 13);
    }

    private static void claim() {
        Says.promise(17, "A CLAIM: its PAPER.");
        LinesPromised x = new LinesPromised();
        for (int i = 0; i < 60; i++) Check.due("claim", x.claim(79 - i, 1 + i), i);
        for (int i = 0; i < 60; i++) Check.due("its cell", x.about(i, 3), 79 - i);
        Says.promise(17, "NONE: cell; BAD: coins (1 .. 9999); FULL.");
        Check.range("coins", LinesPromised::new, (y, n) -> y.claim(0, n), 1, 9999, -2);
        Check.due("full", x.claim(0, 1), -4);
        Check.due("coins ahead of full", x.claim(0, 0), -2);
        Check.due("cell ahead of coins", x.claim(80, 0), -1);
        Check.due("cell ahead of full", x.claim(-1, 1), -1);
        LinesPromised y = oneOfEach();
        for (int i = 6; i < 60; i++) y.claim(0, 1);
        Check.due("full", y.claim(11, 500), -4);
        let(y, 'c', 9);
    }

    private static void bill() {
        Says.promise(18, "A BILL: its PAPER.");
        LinesPromised x = Check.fourSchemes();
        Check.plan(x, 0, 0, 1, 2, 3);
        Check.due("bill", x.bill(4), 5);
        Check.due("of its plan", x.about(5, 1), 4);
        Says.promise(18, "NONE: no PLAN; STATE; FULL.");
        for (int paper : new int[] {Integer.MIN_VALUE, -1, 0, 3, 5, 6, Integer.MAX_VALUE}) {
            Check.due("no plan " + paper, x.bill(paper), -1);
        }
        Check.plan(x, 0, 0, 1, 2, 3);
        Check.plan(x, 0, 0, 1, 2);
        for (int i = 8; i < 60; i++) x.claim(0, 1);
        Check.due("full", x.bill(6), -4);
        Check.due("it has one, ahead of full", x.bill(4), -3);
        Check.due("torn, ahead of full", x.bill(7), -3);
        Check.due("no plan, ahead of full", x.bill(0), -1);
    }

    private static void hear() {
        Says.promise(19, "NONE; BAD.");
        LinesPromised x = oneOfEach();
        for (int paper : new int[] {Integer.MIN_VALUE, -1, 0, 1, 3, 4, 5, 6, Integer.MAX_VALUE}) {
            Check.due("no bill " + paper, x.hear(paper, 0), -1);
            Check.due("no bill, ahead of day", x.hear(paper, 1000), -1);
        }
        Check.due("day", x.hear(2, 1000), -2);
        Check.due("day", x.hear(2, -1), -2);
    }

    private static void bar() {
        Says.promise(20, "Two BILLS BAR one another: 1; 0: they did.");
        LinesPromised x = Check.fourBills();
        Check.due("bar", x.bar(8, 11), 1);
        Check.due("they did", x.bar(8, 11), 0);
        Check.due("they did", x.bar(11, 8), 0);
        Check.due("others", x.bar(9, 11), 1);
        x.grant(10);
        Check.due("a granted one, too", x.bar(10, 8), 1);
        Check.due("it bars", x.grant(8), -3);
        Check.due("one that two bar", x.bar(11, 10), 1);
        Check.due("all that bar are looked at", x.grant(11), -3);
        LinesPromised y = Check.fourBills();
        y.bar(8, 11);
        y.bar(9, 11);
        y.grant(8);
        Check.due("the older bar stays", y.grant(11), -3);
        y.bar(10, 8);
        y.bar(10, 9);
        Check.due("the older bar stays", y.grant(10), -3);
        Check.due("the other way round, too", y.bar(11, 8), 0);
        Says.promise(20, "NONE; BAD: one.");
        Check.due("one", x.bar(8, 8), -2);
        for (int paper : new int[] {Integer.MIN_VALUE, -1, 0, 7, 12, Integer.MAX_VALUE}) {
            Check.due("no bill " + paper, x.bar(8, paper), -1);
            Check.due("no bill " + paper, x.bar(paper, 8), -1);
            Check.due("no bill, ahead of one", x.bar(paper, paper), -1);
        }
    }

    private static void grant() {
        Says.promise(21, "GRANTED: how many are.");
        LinesPromised x = Check.fourBills();
        for (int i = 0; i < 4; i++) {
            Check.due("so many", x.grant(11 - i), i + 1);
            Check.due("count", x.count(6), i + 1);
        }
        Says.promise(21, "NONE; STATE.");
        Check.due("granted", x.grant(8), -3);
        for (int paper : new int[] {Integer.MIN_VALUE, -1, 0, 7, 12, Integer.MAX_VALUE}) {
            Check.due("no bill " + paper, x.grant(paper), -1);
        }
        Check.due("no more are", x.count(6), 4);
    }

    private static void cast() {
        Says.promise(22, "NONE: paper, k; -13: it is of another KIND.");
        Check.range("k", SaysPapers::oneOfEach, (x, n) -> x.cast(5, n == 6 || n < 0 || n > 6 ? n : 0), 0, 6, -1);
        Check.range("paper", SaysPapers::oneOfEach, (x, n) -> x.cast(n, 0), 0, 5, -1);
        LinesPromised x = oneOfEach();
        Check.due("no k, ahead of another kind", x.cast(0, 7), -1);
        Check.due("no paper, ahead of another kind", x.cast(6, 2), -1);
        Check.due("a scheme is no plan", x.cast(0, 2), -13);
        Check.due("a plan is no bill", x.cast(1, 3), -13);
        Check.due("a call is no loan", x.cast(3, 5), -13);
        Check.due("a claim is no scheme", x.cast(5, 1), -13);
        Check.due("nothing of an object without papers", new LinesPromised().cast(0, 0), -1);
    }

    private static void column(int what, int... due) {
        LinesPromised x = oneOfEach();
        for (int paper = 0; paper < 6; paper++) Check.due("paper " + paper, x.about(paper, what), due[paper]);
    }

    private static void about() {
        Says.promise(23, "Of a PAPER what 0 KIND,");
        column(0, 1, 2, 3, 4, 5, 6);
        Says.promise(23, "1 of which PAPER it is (of a SCHEME, CLAIM: NONE),");
        column(1, -1, 0, 1, 0, 0, -1);
        Says.promise(23, "2 the DAY it came,");
        column(2, 2, 2, 2, 2, 2, 2);
        LinesPromised x = oneOfEach();
        x.dig(50);
        x.claim(0, 1);
        Check.due("the day it came", x.about(6, 2), 52);
        Check.due("the day it came", x.about(5, 2), 2);
        Says.promise(23, "3 first TOWN (of SCHEMES and those under them; of CLAIMS the CELL; of LOANS the HOLDER),");
        column(3, 0, 0, 0, -1, 6, 11);
        Says.promise(23, "4 second TOWN, 5 GAUGE (of them likewise),");
        column(4, 1, 1, 1, -1, -1, -1);
        column(5, 1, 1, 1, -1, -1, -1);
        LinesPromised y = Check.fourBills();
        Check.due("from 3", y.about(11, 3), 3);
        Check.due("to 0", y.about(11, 4), 0);
        Check.due("gauge 0", y.about(10, 5), 0);
        Says.promise(23, "6 SHARES (of SCHEMES alone), pence, COINS (NONE: others),");
        column(6, 7, -1, -1, 5, 6, 9);
        x.scrip(0, 0, 7);
        Check.due("all its shares, whoever has them", x.about(0, 6), 7);
        Says.promise(23, "NONE: others.");
        Check.range("what", SaysPapers::oneOfEach, (z, n) -> z.about(0, n == 7 || n < 0 || n > 7 ? n : 0), 0, 7, -1);
        Check.range("paper", SaysPapers::oneOfEach, (z, n) -> z.about(n, 0), 0, 5, -1);
    }

    private static void aboutMarks() {
        Says.promise(23, "7 1 if GRANTED, SETTLED, or a SCHEME is FALLEN, else 0.");
        column(7, 0, 0, 0, 0, 0, 0);
        LinesPromised x = oneOfEach();
        x.grant(2);
        x.man(1);
        int[] granted = {0, 0, 1, 0, 0, 0};
        for (int paper = 0; paper < 6; paper++) Check.due("granted: paper " + paper, x.about(paper, 7), granted[paper]);
        x.dig(1);
        Check.due("the scheme dug its coins", x.purse(1, 0), 0);
        Check.due("settle", x.settle(), 1 << 8);
        int[] settled = {1, 0, 1, 1, 1, 0};
        for (int paper = 0; paper < 6; paper++) Check.due("settled: paper " + paper, x.about(paper, 7), settled[paper]);
    }
}
