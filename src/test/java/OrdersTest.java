/** Promises 6 to 9 and 43: feed, text, force, why, tried. */
public final class OrdersTest {
    private static final String WIDEST = "let !!!!!y<1;let (((((y<1)))));let !(!(!y<1))&((((!y<1))))|g=1";

    public static void main(String[] args) {
        feed();
        faults();
        proper();
        text();
        force();
        why();
        letting();
        tried();
        triedSearches();
        Check.end();
    }

    private static void feed() {
        LinesPromised x = new LinesPromised();
        Check.due("no bytes", x.feed(0, 0), -2);
        Check.due("nine bytes", x.feed(0, 9), -2);
        Check.due("bytes", x.feed(0, -1), -2);
        Check.due("the lowest byte alone", x.feed(0x7374726F6B652067L, 1), 1);
        Check.due("the highest of these first", x.feed(0x6170L, 2), 3);
        Check.due("feed", x.feed(0x2037L, 2), 5);
        Check.due("it read gap 7", x.text(0), 0);
        Check.due("gap", x.force(4, 0), 7);
        for (int i = 1; i <= 17; i++) Check.due("feed", x.feed(-1L, 8), 8 * i);
        Check.due("full", x.feed(0, 5), -4);
        Check.due("bad ahead of full", x.feed(0, 9), -2);
        Check.due("to the brim", x.feed(0, 4), 140);
        Check.due("full", x.feed(0, 1), -4);
        Check.due("count", x.count(4), 140);
    }

    private static void faults() {
        Check.fault("", 0);
        Check.fault("x", 0);
        Check.fault(" slope 1", 0);
        Check.fault("Slope 1", 0);
        Check.fault("s", 1);
        Check.fault("sx", 1);
        Check.fault("cl", 2);
        Check.fault("cx", 1);
        Check.fault("clope 1", 3);
        Check.fault("strope 1", 4);
        Check.fault("slope", 5);
        Check.fault("slope1", 5);
        Check.fault("slope ", 6);
        Check.fault("slope  1", 6);
        Check.fault("slope -1", 6);
        Check.fault("slope 00", 7);
        Check.fault("slope 01", 7);
        Check.fault("slope 1000", 9);
        Check.fault("slope 1 ", 7);
        Check.fault("slope 1,", 7);
        Check.fault("slope 1;", 8);
        Check.fault("slope 1; close 1", 8);
        Check.fault("slope 1;;", 8);
        Check.fault("park", 4);
        Check.fault("park ", 5);
        Check.fault("park x", 5);
        Check.fault("park yn", 6);
        Check.fault("let ", 4);
        Check.fault("let y", 5);
        Check.fault("let y=1", 5);
        Check.fault("let y<", 6);
        Check.fault("let y<x", 6);
        Check.fault("let y<01", 7);
        Check.fault("let y<1000", 9);
        Check.fault("let y<1|", 8);
        Check.fault("let y<1&", 8);
        Check.fault("let y<1&|", 8);
        Check.fault("let y<1 ", 7);
        Check.fault("let y<1)", 7);
        Check.fault("let (y<1", 8);
        Check.fault("let (y<1;", 8);
        Check.fault("let ()", 5);
        Check.fault("let !", 5);
        Check.fault("let !|", 5);
        Check.fault("let g<1", 5);
        Check.fault("let g=", 6);
        Check.fault("let g=2", 6);
        Check.fault("let g=01", 7);
        Check.fault("let a<1", 4);
        Check.fault("let !!!!!!y<1", 9);
        Check.fault("let ((((((y<1))))))", 9);
        Check.fault("let !(!(!(", 9);
        Check.fault("let (((((!y<1)))))", 9);
        Check.fault("gap 1;gap 1;gap 1;gap 1;gap 1;gap 1;gap 1;gap 1;", 47);
        Check.fault("gap 1;gap 1;gap 1;gap 1;gap 1;gap 1;gap 1;gap 1;gap 1", 47);
        Check.fault("gap 1\u00e9", 5);
        Check.fault("\u00ff", 0);
    }

    private static void proper() {
        String[] texts = {"slope 0", "close 999", "stroke 10;call 7;gap 100", "park y", "park n;park y", WIDEST,
            "let y<1&t>2|w<3&r>4|c<999&g=0", "gap 1;gap 1;gap 1;gap 1;gap 1;gap 1;gap 1;gap 1"};
        LinesPromised x = new LinesPromised();
        for (int i = 0; i < texts.length; i++) Check.order(x, texts[i], i, i);
    }

    private static void text() {
        LinesPromised x = new LinesPromised();
        Check.tape(x, "slope 1");
        Check.due("day", x.text(-1), -2);
        Check.due("day", x.text(1000), -2);
        Check.due("the tape stays", x.count(4), 7);
        Check.due("text", x.text(999), 0);
        for (int i = 1; i < 8; i++) Check.order(x, "slope 1", 0, i);
        Check.tape(x, "nonsense");
        Check.due("bad ahead of full", x.text(1000), -2);
        Check.due("full ahead of the fault", x.text(0), -4);
        Check.due("the tape stays", x.count(4), 8);
        Check.due("orders", x.count(2), 8);
    }

    private static void force() {
        LinesPromised x = new LinesPromised();
        int[] usual = {99, 2, 999, 50, 10, 1, 0};
        for (int word = 0; word < 7; word++) {
            Check.due("usual", x.force(word, 0), usual[word]);
            Check.due("why", x.why(word, 999), -5);
        }
        Check.order(x, "slope 7;slope 5;park n", 10, 0);
        Check.order(x, "slope 3;let g=0", 5, 1);
        Check.due("ahead of all", x.force(0, 4), 99);
        Check.due("the first in force", x.force(0, 5), 3);
        Check.due("the last clause of the greatest day", x.force(0, 10), 5);
        Check.due("park", x.force(5, 9), 1);
        Check.due("park", x.force(5, 999), 0);
        Check.due("let", x.force(6, 4), 0);
        Check.due("let of an older order that has it", x.force(6, 11), 1);
        Check.order(x, "slope 8", 10, 2);
        Check.due("of like days the greatest number", x.force(0, 10), 8);
        Check.order(x, "slope 9", 9, 3);
        Check.due("a later number of an earlier day", x.force(0, 10), 8);
        Check.due("a later number of an earlier day", x.force(0, 9), 9);
        Check.due("no word", x.force(7, -1), -1);
        Check.due("no word", x.force(-1, 0), -1);
        Check.due("day", x.force(0, 1000), -2);
        Check.due("day", x.force(6, -1), -2);
    }

    private static void why() {
        LinesPromised x = new LinesPromised();
        Check.order(x, "close 1;slope 1;close 2;let g=1", 3, 0);
        Check.order(x, "gap 4;close 7", 3, 1);
        Check.due("by an order and its clause", x.why(1, 3), 101);
        Check.due("by an order and its clause", x.why(0, 3), 1);
        Check.due("by an order and its clause", x.why(6, 3), 3);
        Check.due("by none", x.why(1, 2), -5);
        Check.order(x, "close 1;slope 1;close 2", 4, 2);
        Check.due("by the last clause of it", x.why(1, 4), 202);
        Check.due("no word", x.why(7, 1000), -1);
        Check.due("no word", x.why(-1, 0), -1);
        Check.due("day", x.why(0, 1000), -2);
        Check.due("day", x.why(0, -1), -2);
    }

    private static void let(LinesPromised x, String e, int want) {
        Check.tape(x, "let " + e);
        Check.due("bills by let " + e, x.tried(1), want);
    }

    /** A bill of 30 and more yards, trade 30, one park, two rivers, claims of 12 and gauge 1. */
    private static void letting() {
        LinesPromised x = Check.fourTowns();
        x.scheme(0, 1, 1, 5);
        x.land(0, 1, 1);
        x.land(1, 1, 2);
        x.land(3, 1, 1);
        Check.plan(x, 0, 0, 1, 2, 3);
        Check.due("bill", x.bill(1), 2);
        x.claim(0, 5);
        x.claim(3, 4);
        x.claim(3, 3);
        x.claim(4, 100);
        // 15 + 10 + 30 yards
        String[] so = {"y<6", "y>4", "t<31", "t>29", "w<2", "w>0", "r<3", "r>1", "c<13", "c>11", "g=1"};
        String[] not = {"y<5", "y>5", "t<30", "t>30", "w<1", "w>1", "r<2", "r>2", "c<12", "c>12", "g=0"};
        for (int i = 0; i < so.length; i++) {
            let(x, so[i], 1);
            let(x, not[i], 0);
            let(x, "!" + so[i], 0);
            let(x, "!!" + so[i], 1);
            let(x, so[i] + "&" + not[i], 0);
            let(x, not[i] + "|" + so[i], 1);
            let(x, not[i] + "&" + not[i] + "|" + so[i], 1);
            let(x, so[i] + "|" + so[i] + "&" + not[i], 1);
            let(x, "(" + so[i] + "|" + so[i] + ")&" + not[i], 0);
            let(x, "!" + not[i] + "&" + so[i], 1);
            let(x, "!(" + not[i] + "&" + so[i] + ")", 1);
        }
    }

    private static void tried() {
        LinesPromised x = Check.fourBills();
        Check.tape(x, "slope 1");
        Check.due("no what", x.tried(3), -1);
        Check.due("no what", x.tried(-1), -1);
        Check.due("the tape stays", x.count(4), 7);
        Check.due("plans", x.tried(0), 4);
        Check.due("the tape is empty", x.count(4), 0);
        Check.due("an empty tape has a fault", x.tried(0), -10);
        x.land(1, 0, 5);
        Check.tape(x, "close 4");
        Check.due("one isn't close", x.tried(0), 3);
        Check.tape(x, "close 5;slope 4");
        Check.due("one is steep", x.tried(0), 3);
        Check.tape(x, "close 5;slope 5");
        Check.due("all are", x.tried(0), 4);
        Check.tape(x, "let g=1");
        Check.due("bills", x.tried(1), 2);
        Check.tape(x, "gap 1");
        Check.due("bills without let", x.tried(1), 4);
        Check.due("no order is left of it", x.count(2), 0);
        Check.due("no rule is left of it", x.force(1, 0), 2);
        for (int i = 0; i < 8; i++) Check.order(x, "close 9;let g=0", 0, i);
        Check.tape(x, "close 0;let g=1&t>50");
        Check.due("beside eight orders", x.tried(0), 3);
        Check.tape(x, "let g=1&t>49");
        Check.due("beside eight orders", x.tried(1), 2);
        Check.due("hear by the orders there are", x.hear(8, 0), 1);
    }

    private static void triedSearches() {
        LinesPromised x = new LinesPromised();
        Check.tape(x, "slope 1");
        Check.due("no such towns", x.tried(2), -5);
        x.town(0, 0);
        Check.tape(x, "slope 1");
        Check.due("no such town", x.tried(2), -5);
        x.town(2, 0);
        x.land(1, 1, 2);
        Check.tape(x, "gap 1");
        Check.due("through a park", x.tried(2), 25);
        Check.tape(x, "park n");
        Check.due("round a park", x.tried(2), 40);
        for (int cell = 10; cell < 20; cell++) x.land(cell, 0, 9);
        Check.tape(x, "park n;slope 8");
        Check.due("none", x.tried(2), -5);
        x.scheme(0, 1, 0, 1);
        Check.due("a torn plan", Check.plan(x, 0, 0, 1), 1);
        Check.due("a torn plan of no cells", Check.plan(x, 0, 5), 2);
        Check.tape(x, "close 0");
        Check.due("torn plans, too", x.tried(0), 2);
        x.land(0, 0, 1);
        Check.tape(x, "close 0");
        Check.due("not close any more", x.tried(0), 1);
    }
}
