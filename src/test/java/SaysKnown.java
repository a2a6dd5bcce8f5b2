/** The sentences on what was known, on the image and on the host, and of promises 44 to 50, each with a test of its own. */
final class SaysKnown {
    private SaysKnown() {
    }

    static void all() {
        behindADay();
        theImage();
        known();
        image();
        undo();
        count();
        sheet();
        item();
        copy();
    }

    /** Scheme 0 has a hundred coins and bill 8 is granted on day 1; four days go by, two men dig. */
    private static LinesPromised fourDays() {
        LinesPromised x = Check.fourBills();
        x.coin(0, 500);
        x.lend(0, 0, 100);
        x.man(2);
        x.dig(1);
        x.grant(8);
        x.dig(3);
        return x;
    }

    private static void row(LinesPromised x, int paper, int... due) {
        for (int day = 0; day < due.length; day++) Check.due("paper " + paper + " behind day " + day, x.known(paper, day), due[day]);
    }

    private static void behindADay() {
        Says.term(7, "KNOWN of a DAY that went by: COINS of a SCHEME behind it, YARDS left of a BILL (all of those that there were).");
        LinesPromised x = fourDays();
        row(x, 0, 100, 88, 76, 64, -1);
        row(x, 8, -1, 24, 18, 12, -1);
        row(x, 1, 0, 0, 0, 0, -1);
        x.lend(0, 0, 300);
        x.lend(1, 0, 50);
        Check.due("a bill that came late", x.grant(9), 2);
        Check.due("what comes later changes nothing", x.known(0, 3), 64);
        Check.due("what comes later changes nothing", x.known(1, 3), 0);
        Check.due("what comes later changes nothing", x.known(9, 3), -1);
        x.scheme(0, 2, 0, 1);
        x.man(99);
        x.dig(1);
        row(x, 0, 100, 88, 76, 64, 340);
        row(x, 1, 0, 0, 0, 0, 10);
        row(x, 8, -1, 24, 18, 12, 0);
        row(x, 9, -1, -1, -1, -1, 0);
        row(x, 15, -1, -1, -1, -1, 0);
    }

    private static void theImage() {
        Says.term(7, "THE IMAGE: all that there is (but THE IMAGE and THE TRACE).");
        LinesPromised x = Everything.rich();
        long was = Everything.of(x);
        x.image();
        Check.due("the image is none of it", x.undo(), 3);
        Check.due("it changes nothing", Everything.of(x), was);
        long on = Everything.andOn(x);
        Check.due("then all was other", Everything.of(x), was);
        Check.due("and is again as it was, tape and sheets too", Everything.andOn(x), on);
        LinesPromised y = Everything.rich();
        y.sheet(3, 1, 5);
        y.image();
        y.sheet(3, -1, 0);
        y.sheet(0, -1, 0);
        y.item(1, 0, 77);
        y.text(0);
        Check.tape(y, "gap 1;");
        y.undo();
        Check.due("a sheet is there again", y.item(3, 4, 0), 1);
        Check.due("as long as it was", y.item(3, 5, 0), -12);
        Check.due("and of its sort", y.copy(3, 0, 0, 0, 1), -13);
        Check.due("the tape", y.count(4), 7);
        Check.due("the tape", y.text(0), 1);
        Check.due("a row of cells and of rises", y.way(y.chain(1, 0, 1), 1), -5);
        Check.due("a row of rises", y.level(15, 1), 5);
    }

    private static void known() {
        Says.promise(44, "KNOWN: COINS of a SCHEME, YARDS left of a BILL (GRANTED then; else NONE) behind a DAY.");
        LinesPromised x = fourDays();
        Check.due("coins", x.known(0, 3), 64);
        Check.due("yards", x.known(8, 3), 12);
        Check.due("not granted then", x.known(8, 0), -1);
        Check.due("never granted", x.known(9, 3), -1);
        LinesPromised late = Check.fourBills();
        for (int i = 0; i < 19; i++) late.dig(50);
        late.dig(49);
        Check.due("the last day that can go by", late.known(0, 998), 0);
        Check.due("today didn't", late.known(0, 999), -1);
        Says.promise(44, "NONE.");
        Check.range("day", SaysKnown::fourDays, (y, n) -> y.known(0, n), 0, 3, -1);
        Check.range("scheme", SaysKnown::fourDays, (y, n) -> y.known(n, 3), 0, 3, -1);
        for (int paper = 4; paper < 14; paper++) {
            if (paper != 8) Check.due("no scheme, no granted bill: " + paper, x.known(paper, 3), -1);
        }
        Check.due("no day went by", Check.fourBills().known(0, 0), -1);
    }

    private static void image() {
        Says.promise(45, "THE IMAGE is taken: TODAY.");
        LinesPromised x = new LinesPromised();
        Check.due("today", x.image(), 0);
        x.dig(50);
        Check.due("today", x.image(), 50);
        x.dig(1);
        Check.due("the later of two stays", x.undo(), 50);
        for (int i = 0; i < 18; i++) x.dig(50);
        x.dig(49);
        Check.due("the last day", x.image(), 999);
        Check.due("undo", x.undo(), 999);
    }

    private static void undo() {
        Says.promise(46, "All is as THE IMAGE (but THE IMAGE; it stays): TODAY.");
        LinesPromised x = Check.fourBills();
        x.image();
        for (int i = 0; i < 3; i++) {
            Check.due("a claim", x.claim(0, 1), 12);
            Check.due("days", x.dig(3), 3);
            Check.due("undo", x.undo(), 0);
            Check.due("it stays", x.undo(), 0);
            Check.due("no claim", x.count(1), 12);
            Check.due("no day went by", x.known(0, 0), -1);
        }
        for (int i = 0; i < 3; i++) {
            for (int scheme = 0; scheme < 8; scheme++) Check.due("up to twelve schemes", x.scheme(0, 1, 0, 5), 12 + scheme);
            Check.due("no more", x.scheme(0, 1, 0, 5), -4);
            Check.due("all their shares", x.scrip(19, 0, 5), 5);
            x.undo();
        }
        x.dig(2);
        x.image();
        x.dig(2);
        x.undo();
        Check.due("days ahead of it went by", x.known(0, 1), 0);
        Check.due("days behind it didn't", x.known(0, 2), -1);
        Says.promise(46, "STATE: there is none.");
        LinesPromised y = new LinesPromised();
        Check.due("none", y.undo(), -3);
        y.claim(0, 1);
        Check.due("none", y.undo(), -3);
        Check.due("nothing is undone", y.count(1), 1);
        y.image();
        Check.due("one", y.undo(), 0);
        Check.due("of another object", new LinesPromised().undo(), -3);
    }

    private static void count() {
        Says.promise(47, "0 TOWNS, 1 PAPERS, 2 ORDERS, 3 TODAY, 4 bytes of THE TAPE, 5 MEN, 6 GRANTED, 7 DONE, 8 JOBS,"
            + " 9 OFFERED and ASKED that stand, 10 VOTES.");
        int[] some = {4, 15, 1, 3, 7, 2, 1, 0, 1, 2, 4};
        int[] most = {6, 60, 8, 4, 140, 9, 2, 1, 7, 40, 60};
        LinesPromised rich = Everything.rich();
        LinesPromised full = Everything.full();
        for (int what = 0; what < 11; what++) {
            Check.due("of a new object: " + what, new LinesPromised().count(what), 0);
            Check.due("of some: " + what, rich.count(what), some[what]);
            Check.due("of all there can be: " + what, full.count(what), most[what]);
        }
        Says.promise(47, "NONE.");
        Check.range("what", LinesPromised::new, (x, n) -> x.count(n), 0, 10, -1);
    }

    private static void sheet() {
        Says.promise(48, "A SHEET becomes a row of n of a sort, all 0, or missing (sort -1: n does not matter): 1.");
        LinesPromised x = Check.fourSchemes();
        Check.row(x, 0, 0, 1, 2, 3);
        Check.due("a row anew", x.sheet(0, 0, 3), 1);
        Check.row(x, 1, 2, 7, 7);
        Check.due("a row anew", x.sheet(1, 2, 2), 1);
        x.item(0, 1, 1);
        x.chain(0, 0, 1);
        Check.due("cells 0, 1 and 0 again", x.way(4, 1), 2);
        Check.due("rise 0", x.level(4, 1), 0);
        int[] any = {0, 1, 40, 41, -1, Integer.MIN_VALUE, Integer.MAX_VALUE};
        for (int n : any) {
            x.sheet(2, 1, 5);
            Check.due("missing, n " + n, x.sheet(2, -1, n), 1);
            Check.due("it is", x.item(2, 0, 0), -11);
        }
        Check.due("of none", x.sheet(2, 2, 0), 1);
        Check.due("there, but of none", x.item(2, 0, 0), -12);
        Says.promise(48, "NONE: sheet; BAD: sort, n above 40; -14.");
        Check.range("sheet", LinesPromised::new, (y, n) -> y.sheet(n, 0, 0), 0, 3, -1);
        Check.range("sort", LinesPromised::new, (y, n) -> y.sheet(0, n, 0), -1, 2, -2);
        for (int sort = 0; sort < 3; sort++) {
            Check.due("41", x.sheet(0, sort, 41), -2);
            Check.due("-1", x.sheet(0, sort, -1), -14);
            Check.due("the least of all", x.sheet(0, sort, Integer.MIN_VALUE), -14);
            Check.due("the most of all", x.sheet(0, sort, Integer.MAX_VALUE), -2);
        }
        Check.due("sheet ahead of sort", x.sheet(4, 3, 0), -1);
        Check.due("sheet ahead of n", x.sheet(-1, 0, 41), -1);
        Check.due("sheet ahead of a size below 0", x.sheet(4, 0, -1), -1);
        Check.due("sort ahead of a size below 0", x.sheet(0, 3, -1), -2);
        Check.due("sort ahead of a size below 0", x.sheet(0, -2, -1), -2);
        Check.due("refused ones change nothing", x.item(0, 2, 0), 1);
        Check.due("refused ones change nothing", x.way(x.chain(0, 0, 1), 0), 2);
    }

    private static void item() {
        Says.promise(49, "Item i of a SHEET becomes v (of bytes, shorts its lowest bits): 1.");
        int[] same = {1, 257, -255, 65537, Integer.MIN_VALUE + 1};
        for (int v : same) {
            LinesPromised x = Check.fourSchemes();
            Check.row(x, 0, 0, 0, v, 2, 3);
            Check.row(x, 1, 2, 5, v);
            x.chain(0, 0, 1);
            Check.due("byte of " + v, x.way(4, 1), -5);
            Check.due("byte of " + v, x.way(4, 11), 1);
            Check.due("an int is as it is", x.level(4, 2), 5 + Math.max(-10000, Math.min(10000, v)));
        }
        LinesPromised y = Check.fourSchemes();
        Check.row(y, 0, 0, 256, -1, 2);
        y.chain(0, 0, 1);
        Check.due("256 is 0, -1 is no cell", y.way(4, 1), 1);
        Check.row(y, 1, 1, 70000);
        Check.due("of shorts", y.item(1, 0, -70000), 1);
        Says.promise(49, "NONE; -11; -12.");
        Check.range("sheet", SaysKnown::rows, (x, n) -> x.item(n, 0, 1), 0, 3, -1);
        Check.range("place", SaysKnown::rows, (x, n) -> x.item(3, n, 1), 0, 39, -12);
        Check.due("no sheet, ahead of missing", new LinesPromised().item(4, -1, 0), -1);
        Check.due("missing, ahead of a place outside", new LinesPromised().item(0, -1, 0), -11);
        LinesPromised x = rows();
        Check.due("a row of one", x.item(0, 1, 0), -12);
        x.sheet(0, 0, 0);
        Check.due("a row of none", x.item(0, 0, 0), -12);
        x.sheet(0, -1, 0);
        Check.due("missing", x.item(0, 0, 0), -11);
    }

    /** Rows of 1, 2, 5 and 40 bytes. */
    private static LinesPromised rows() {
        LinesPromised x = new LinesPromised();
        int[] sizes = {1, 2, 5, 40};
        for (int sheet = 0; sheet < 4; sheet++) x.sheet(sheet, 0, sizes[sheet]);
        return x;
    }

    /** A row of bytes as a plan's cells: towns in cells 0 and 9, the row is told as the cells 0 to 9 in order or not. */
    private static void copied(String what, int from, int to, int n, int... due) {
        LinesPromised x = new LinesPromised();
        x.town(due[0], 0);
        x.town(due[due.length - 1], 0);
        x.scheme(0, 1, 0, 1);
        Check.row(x, 0, 0, 0, 1, 2, 3, 4, 5);
        Check.due(what, x.copy(0, from, 0, to, n), n);
        Check.due(what, x.copy(0, 0, 0, 0, 6), 6);
        x.chain(0, 0, 0);
        Check.due(what + ": it is whole", x.way(1, 1), -5);
        for (int i = 0; i < due.length; i++) Check.due(what + ": place " + i, x.way(1, 10 + i), due[i]);
    }

    private static void copy() {
        Says.promise(50, "n items of a SHEET from i on come to another one's (or its own) from j on, as they were: n.");
        copied("back over itself", 2, 0, 4, 2, 3, 4, 5);
        copied("back by one", 1, 0, 5, 1, 2, 3, 4, 5);
        copied("onto itself", 0, 0, 6, 0, 1, 2, 3, 4, 5);
        copied("nothing", 6, 0, 0, 0, 1, 2, 3, 4, 5);
        copied("nothing", 0, 6, 0, 0, 1, 2, 3, 4, 5);
        copied("on over itself", 0, 3, 3, 0, 1, 2);
        LinesPromised x = Check.fourSchemes();
        Check.row(x, 1, 2, 1, 20, 300);
        Check.due("on by one, over itself", x.copy(1, 0, 1, 1, 2), 2);
        Check.row(x, 0, 0, 0, 1, 2, 3);
        x.chain(0, 0, 1);
        Check.due("as they were", x.level(4, 1), 1);
        Check.due("as they were", x.level(4, 2), 2);
        Check.due("as they were", x.level(4, 3), 22);
        Check.row(x, 2, 2, 5, 5, 5);
        Check.due("to another one", x.copy(1, 2, 2, 1, 1), 1);
        x.item(1, 2, 99);
        x.chain(0, 0, 2);
        Check.due("one of three", x.level(5, 3), 5 + 20 + 5);
        x.sheet(3, 1, 4);
        Check.due("shorts", x.copy(3, 0, 3, 1, 3), 3);
        Says.promise(50, "NONE; -11; -13: of unlike sorts; -12 (n below 0, too).");
        Check.range("sheet", SaysKnown::rows, (y, n) -> y.copy(n, 0, 3, 0, 1), 0, 3, -1);
        Check.range("other", SaysKnown::rows, (y, n) -> y.copy(3, 0, n, 0, 1), 0, 3, -1);
        Check.range("n by the one's size", SaysKnown::rows, (y, n) -> y.copy(2, 0, 3, 0, n), 0, 5, -12);
        Check.range("n by the other's size", SaysKnown::rows, (y, n) -> y.copy(3, 0, 2, 0, n), 0, 5, -12);
        Check.range("n up to the end", SaysKnown::rows, (y, n) -> y.copy(3, 38, 2, 2, n), 0, 2, -12);
        Check.range("i", SaysKnown::rows, (y, n) -> y.copy(2, n, 3, 0, 2), 0, 3, -12);
        Check.range("j", SaysKnown::rows, (y, n) -> y.copy(3, 0, 2, n, 2), 0, 3, -12);
        Check.range("i for nothing", SaysKnown::rows, (y, n) -> y.copy(2, n, 3, 0, 0), 0, 5, -12);
        Check.range("j for nothing", SaysKnown::rows, (y, n) -> y.copy(3, 0, 2, n, 0), 0, 5, -12);
        LinesPromised z = rows();
        z.sheet(0, -1, 0);
        z.sheet(1, 1, 5);
        Check.due("no sheet, ahead of missing", z.copy(0, 0, 4, 0, 1), -1);
        Check.due("missing, ahead of unlike", z.copy(0, 0, 1, 0, 1), -11);
        Check.due("the other missing", z.copy(1, 0, 0, 0, 1), -11);
        Check.due("missing, ahead of outside", z.copy(0, 0, 3, 0, 41), -11);
        Check.due("unlike", z.copy(1, 0, 2, 0, 1), -13);
        Check.due("unlike", z.copy(2, 0, 1, 0, 0), -13);
        Check.due("unlike, ahead of outside", z.copy(1, 5, 2, 0, 1), -13);
        Check.due("unlike, ahead of n below 0", z.copy(2, 0, 1, 0, -1), -13);
        z.sheet(1, 2, 5);
        Check.due("ints and bytes", z.copy(1, 0, 2, 0, 1), -13);
        z.sheet(2, 1, 5);
        Check.due("ints and shorts", z.copy(1, 0, 2, 0, 1), -13);
    }
}
