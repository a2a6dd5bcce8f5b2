/** The sentences of term 1 and of promises 1 to 5, each with a test of its own. */
final class SaysLand {
    private SaysLand() {
    }

    static void all() {
        cells();
        heights();
        grounds();
        towns();
        days();
        holders();
        sheets();
        newObject();
        land();
        town();
        coin();
        man();
    }

    private static void cells() {
        Says.term(1, "THE LAND: CELLS 0 .. 79;");
        Check.range("cell of land", LinesPromised::new, (x, n) -> x.land(n, 0, 1), 0, 79, -1);
        Check.range("cell of town", LinesPromised::new, (x, n) -> x.town(n, 1), 0, 79, -1);
        Check.range("cell of claim", LinesPromised::new, (x, n) -> x.claim(n, 1), 0, 79, -1);
        Says.term(1, "CELL c is in column c modulo 10, row c by 10; BESIDE one another by sides.");
        for (int a = 0; a < 80; a++) {
            for (int b = 0; b < 80; b++) if (a != b) stepGoes(a, b);
        }
    }

    private static void stepGoes(int a, int b) {
        LinesPromised x = new LinesPromised();
        x.town(a, 0);
        x.town(b, 0);
        x.scheme(0, 1, 0, 1);
        x.sheet(0, 0, 2);
        x.item(0, 0, a);
        x.item(0, 1, b);
        x.chain(0, 0, 1);
        boolean beside = Math.abs(a % 10 - b % 10) + Math.abs(a / 10 - b / 10) == 1;
        Check.due("a step from " + a + " to " + b, x.way(1, 1), beside ? -5 : 1);
        if (!beside) return;
        Check.due("the least way from " + a + " to " + b, x.slope(0, 1, 0, 1), 2);
    }

    private static void heights() {
        Says.term(1, "Each has a HEIGHT (0 .. 99; 0 at first)");
        for (int cell = 0; cell < 80; cell++) {
            LinesPromised x = new LinesPromised();
            Check.due("at first", x.land(cell, 0, 99), 0);
            Check.due("then", x.land(cell, 0, 0), 99);
            Check.due("it goes down again", x.land(cell, 0, 1), 0);
        }
        Check.range("height", LinesPromised::new, (x, n) -> x.land(0, 0, n), 0, 99, -2);
    }

    private static void grounds() {
        Says.term(1, "and is 0 LAND (at first), 1 RIVER, 2 PARK.");
        Check.range("ground", LinesPromised::new, (x, n) -> x.land(79, 1, n), 0, 2, -2);
        LinesPromised x = new LinesPromised();
        x.town(0, 0);
        x.town(1, 0);
        Check.due("land", x.slope(0, 1, 0, 0), 10);
        Check.due("at first", x.land(1, 1, 1), 0);
        Check.due("river", x.slope(0, 1, 0, 0), 30);
        Check.due("then", x.land(1, 1, 2), 1);
        Check.due("park", x.slope(0, 1, 0, 0), 15);
        Check.due("then", x.land(1, 1, 0), 2);
        Check.due("land again", x.slope(0, 1, 0, 0), 10);
    }

    private static void towns() {
        Says.term(1, "TOWNS 0 .. 5, as they come, each in a CELL of its own,");
        LinesPromised x = new LinesPromised();
        for (int i = 0; i < 6; i++) {
            Check.due("no such town yet", x.scheme(i, 0, 0, 1), -1);
            Check.due("town", x.town(10 * i, 0), i);
            for (int j = 0; j <= i; j++) Check.due("one is there", x.town(10 * j, 0), -3);
        }
        Check.due("a seventh", x.town(79, 0), -4);
        Check.due("the last of six", x.scheme(5, 0, 0, 1), 0);
        Check.due("there is no seventh", x.scheme(6, 0, 0, 1), -1);
        Says.term(1, "with TRADE (0 .. 99).");
        Check.range("trade", LinesPromised::new, (y, n) -> y.town(0, n), 0, 99, -2);
        LinesPromised y = new LinesPromised();
        y.town(0, 99);
        y.town(1, 0);
        y.scheme(0, 1, 0, 1);
        Check.plan(y, 0, 0, 1);
        y.bill(1);
        Check.tape(y, "let t>98&t<100");
        Check.due("of 99 and 0", y.tried(1), 1);
    }

    private static void days() {
        Says.term(1, "DAYS are 0 .. 999;");
        Check.range("force", LinesPromised::new, (x, n) -> x.force(0, n), 0, 999, -2);
        Check.range("why", LinesPromised::new, (x, n) -> x.why(0, n), 0, 999, -2);
        Check.range("close", Check::fourBills, (x, n) -> x.close(4, 0, n), 0, 999, -2);
        Check.range("steep", Check::fourBills, (x, n) -> x.close(4, 1, n), 0, 999, -2);
        Check.range("slope", Check::fourBills, (x, n) -> x.slope(0, 1, n, 0), 0, 999, -2);
        Check.range("hear", Check::fourBills, (x, n) -> x.hear(8, n), 0, 999, -2);
        Check.range("text", SaysLand::taped, (x, n) -> x.text(n), 0, 999, -2);
        Says.term(1, "TODAY is 0 at first.");
        Check.due("today", new LinesPromised().count(3), 0);
        Check.due("a paper came", new LinesPromised().claim(0, 1), 0);
        LinesPromised x = new LinesPromised();
        x.claim(0, 1);
        Check.due("on that day", x.about(0, 2), 0);
        Check.due("no day has gone by", x.known(0, 0), -1);
    }

    private static LinesPromised taped() {
        LinesPromised x = new LinesPromised();
        Check.tape(x, "gap 1");
        return x;
    }

    private static void holders() {
        Says.term(1, "HOLDERS 0 .. 7 have COINS (0 at first).");
        Check.range("holder of coin", LinesPromised::new, (x, n) -> x.coin(n, 1), 0, 7, -1);
        Check.range("holder of purse", LinesPromised::new, (x, n) -> x.purse(0, n), 0, 7, -1);
        Check.range("holder of along", LinesPromised::new, (x, n) -> x.along(0, n), 0, 7, -1);
        Check.range("holder of scrip", Check::fourSchemes, (x, n) -> x.scrip(0, n, 1), 0, 7, -1);
        Check.range("holder of ask", Check::fourSchemes, (x, n) -> x.ask(0, n, 1, 1, true), 0, 7, -1);
        Check.range("holder of lend", SaysLand::rich, (x, n) -> x.lend(0, n, 1), 0, 7, -1);
        Check.range("holder of board", Check::fourBills, (x, n) -> x.board(n, 8, true), 0, 7, -1);
        LinesPromised x = new LinesPromised();
        for (int holder = 0; holder < 8; holder++) {
            Check.due("at first", x.purse(0, holder), 0);
            Check.due("they were", x.coin(holder, holder + 1), 0);
        }
        for (int holder = 0; holder < 8; holder++) Check.due("each its own", x.purse(0, holder), holder + 1);
    }

    private static LinesPromised rich() {
        LinesPromised x = Check.fourSchemes();
        for (int holder = 0; holder < 8; holder++) x.coin(holder, 9);
        return x;
    }

    private static void sheets() {
        Says.term(1, "SHEETS 0 .. 3 are rows of numbers, or missing (as all are at first):");
        Check.range("sheet", LinesPromised::new, (x, n) -> x.sheet(n, 0, 1), 0, 3, -1);
        LinesPromised x = Check.fourSchemes();
        for (int sheet = 0; sheet < 4; sheet++) {
            Check.due("at first", x.item(sheet, 0, 0), -11);
            Check.due("at first", x.chain(0, sheet, sheet), -11);
            Check.due("at first", x.copy(sheet, 0, sheet, 0, 0), -11);
        }
        Says.term(1, "of sort 0 bytes, 1 shorts, 2 ints;");
        Check.range("sort", LinesPromised::new, (y, n) -> y.sheet(0, n, 1), -1, 2, -2);
        for (int sort = 0; sort < 3; sort++) {
            x.sheet(sort, sort, 1);
            Check.due("a row of cells must be bytes", x.chain(0, sort, 3), sort == 0 ? 4 : -13);
        }
        Says.term(1, "40 numbers at most.");
        for (int sort = 0; sort < 3; sort++) {
            int of = sort;
            Check.due("none", new LinesPromised().sheet(0, sort, 0), 1);
            Check.due("forty", new LinesPromised().sheet(0, sort, 40), 1);
            Check.due("one more", new LinesPromised().sheet(0, of, 41), -2);
            Check.due("far more", new LinesPromised().sheet(0, of, Integer.MAX_VALUE), -2);
        }
    }

    private static void newObject() {
        Says.promise(1, "Flat LAND, no PAPERS.");
        LinesPromised x = new LinesPromised();
        Check.due("no papers", x.count(1), 0);
        Check.due("no paper 0", x.about(0, 0), -1);
        for (int cell = 0; cell < 80; cell++) {
            Check.due("height", x.land(cell, 0, 0), 0);
            Check.due("ground", x.land(cell, 1, 0), 0);
        }
        for (int what = 0; what < 11; what++) Check.due("count " + what, x.count(what), 0);
        LinesPromised other = new LinesPromised();
        other.land(5, 0, 7);
        other.claim(5, 7);
        Check.due("objects have nothing in common", new LinesPromised().land(5, 0, 0), 0);
        Check.due("objects have nothing in common", new LinesPromised().count(1), 0);
    }

    private static void land() {
        Says.promise(2, "HEIGHT of a CELL (what 0), LAND, RIVER, PARK (1): what it was.");
        LinesPromised x = new LinesPromised();
        Check.due("height", x.land(33, 0, 2), 0);
        Check.due("ground", x.land(33, 1, 1), 0);
        Check.due("height was", x.land(33, 0, 3), 2);
        Check.due("ground was", x.land(33, 1, 2), 1);
        Check.due("of this cell alone", x.land(34, 0, 0), 0);
        Check.due("of this cell alone", x.land(32, 1, 0), 0);
        Says.promise(2, "NONE; BAD.");
        Check.range("what", LinesPromised::new, (y, n) -> y.land(0, n, 0), 0, 1, -1);
        Check.due("none ahead of bad", x.land(80, 0, 100), -1);
        Check.due("none ahead of bad", x.land(0, 2, 100), -1);
        Check.due("a ground of 3 is bad, a height of 3 is not", x.land(33, 1, 3), -2);
        Check.due("refused ones change nothing", x.land(33, 1, 0), 2);
        x.land(33, 0, 100);
        Check.due("refused ones change nothing", x.land(33, 0, 0), 3);
    }

    private static void town() {
        Says.promise(3, "A TOWN: its number.");
        LinesPromised x = new LinesPromised();
        Check.due("the first", x.town(79, 0), 0);
        Check.due("the second", x.town(0, 99), 1);
        Says.promise(3, "NONE: cell; BAD: trade; STATE: one is there; FULL.");
        Check.due("cell ahead of trade", x.town(80, 100), -1);
        Check.due("trade ahead of state", x.town(0, -1), -2);
        Check.due("state", x.town(0, 50), -3);
        Check.due("refused ones are none", x.count(0), 2);
        for (int i = 2; i < 6; i++) x.town(i, 0);
        Check.due("cell ahead of full", x.town(-1, 0), -1);
        Check.due("trade ahead of full", x.town(50, 100), -2);
        Check.due("state ahead of full", x.town(5, 0), -3);
        Check.due("full", x.town(50, 0), -4);
        Check.due("six", x.count(0), 6);
    }

    private static void coin() {
        Says.promise(4, "COINS of a HOLDER (0 .. 99999): what they were.");
        Check.range("coins", LinesPromised::new, (x, n) -> x.coin(0, n), 0, 99999, -2);
        LinesPromised x = new LinesPromised();
        Check.due("they were", x.coin(3, 99999), 0);
        Check.due("they were", x.coin(3, 0), 99999);
        Check.due("none again", x.purse(0, 3), 0);
        Says.promise(4, "NONE; BAD.");
        Check.due("none ahead of bad", x.coin(8, 100000), -1);
        Check.due("bad", x.coin(3, 100000), -2);
        Check.due("refused ones change nothing", x.coin(3, 5), 0);
        LinesPromised y = Check.fourSchemes();
        y.coin(0, 99999);
        y.coin(1, 99999);
        y.scrip(0, 0, 1);
        y.ask(0, 0, 1, 9, false);
        y.ask(0, 1, 1, 9, true);
        y.price(0);
        Check.due("a sale may bring more than can be told", y.coin(0, 1), 100008);
    }

    private static void man() {
        Says.promise(5, "MEN: what they were. BAD.");
        Check.range("men", LinesPromised::new, (x, n) -> x.man(n), 0, 99, -2);
        LinesPromised x = new LinesPromised();
        Check.due("0 at first", x.man(99), 0);
        Check.due("refused", x.man(100), -2);
        Check.due("refused ones change nothing", x.man(0), 99);
        Check.due("none again", x.count(5), 0);
    }
}
