/** The sentences of term 3 and of promises 6 to 9 and 43, each with a test of its own. */
final class SaysOrders {
    private SaysOrders() {
    }

    static void all() {
        tape();
        clauses();
        numbers();
        words();
        expressions();
        numbersOfLet();
        open();
        faults();
        ordersInForce();
        ruleOfADay();
        withoutAny();
        feed();
        text();
        force();
        why();
        triedIsAnOrder();
        tried();
    }

    private static void proper(String text) {
        LinesPromised x = new LinesPromised();
        Check.order(x, text, 0, 0);
        Check.due("the tape is empty", x.count(4), 0);
    }

    private static void tape() {
        Says.term(3, "AN ORDER is read from THE TAPE (bytes, 140 at most):");
        StringBuilder e = new StringBuilder("let y<10");
        while (e.length() < 140) e.append("|y<1");
        Check.due("bytes of it", e.length(), 140);
        proper(e.toString());
        LinesPromised x = new LinesPromised();
        Check.tape(x, e.toString());
        Check.due("one byte more", x.feed('1', 1), -4);
        Check.due("what is there stays", x.text(0), 0);
        e.setCharAt(139, 'x');
        Check.fault(e.toString(), 139);
        Check.fault(e.substring(0, 139), 139);
        Check.fault(e.deleteCharAt(7).substring(0, 135) + "1&|||".substring(0, 2) + "!!!", 140);
        Check.fault("gap 1" + (char) 233, 5);
        Check.fault((char) 231 + "ap 1", 0);
    }

    private static void clauses() {
        Says.term(3, "CLAUSES, 1 to 8, with ; between:");
        Check.fault("", 0);
        proper("gap 1");
        StringBuilder s = new StringBuilder("gap 1");
        for (int i = 2; i <= 8; i++) proper(s.append(";gap ").append(i).toString());
        Check.fault(s + ";", s.length());
        Check.fault(s + ";gap 9", s.length());
        Check.fault(";gap 1", 0);
        Check.fault("gap 1;", 6);
        Check.fault("gap 1;;gap 1", 6);
        Check.fault("gap 1,gap 1", 5);
        Says.term(3, "slope n; close n; stroke n; call n; gap n");
        String[] words = {"slope ", "close ", "stroke ", "call ", "gap "};
        for (int word = 0; word < 5; word++) {
            LinesPromised x = new LinesPromised();
            Check.order(x, words[word] + "123", 0, 0);
            for (int other = 0; other < 5; other++) {
                Check.due("why of word " + other + " by " + words[word], x.why(other, 0), other == word ? 0 : -5);
            }
            Check.due("its number", x.force(word, 0), 123);
        }
    }

    private static void numbers() {
        Says.term(3, "(n: 1 to 3 digits, no 0 ahead of another);");
        int[] least = {0, 1, 9, 10, 99, 100, 999};
        for (int n : least) {
            LinesPromised x = new LinesPromised();
            Check.order(x, "slope " + n, 0, 0);
            Check.due("the number", x.force(0, 0), n);
        }
        Check.fault("slope ", 6);
        Check.fault("slope ;", 6);
        Check.fault("slope 1000", 9);
        Check.fault("slope 9999", 9);
        Check.fault("slope 00", 7);
        Check.fault("slope 01", 7);
        Check.fault("slope 09;close 1", 7);
        Check.fault("slope -1", 6);
        Check.fault("slope /", 6);
        Check.fault("slope :", 6);
        Check.fault("slope 1/", 7);
        Check.fault("slope 1:", 7);
    }

    private static void words() {
        Says.term(3, "park y or park n;");
        LinesPromised x = new LinesPromised();
        Check.order(x, "park n", 0, 0);
        Check.due("n", x.force(5, 0), 0);
        Check.order(x, "park y", 0, 1);
        Check.due("y", x.force(5, 0), 1);
        Check.fault("park ", 5);
        Check.fault("park m", 5);
        Check.fault("park Y", 5);
        Check.fault("park 1", 5);
        Check.fault("park yn", 6);
        Says.term(3, "let E.");
        proper("let g=0");
        Check.fault("let ", 4);
        Check.fault("let ;gap 1", 4);
        Check.fault("let 1", 4);
        Says.term(3, "One blank stands behind each word.");
        for (String word : new String[] {"slope", "close", "stroke", "call", "gap", "park", "let"}) {
            int n = word.length();
            Check.fault(word, n);
            Check.fault(word + "1", n);
            Check.fault(word + "\t1", n);
            Check.fault(word + " ", n + 1);
            Check.fault(word + "  1", n + 1);
            Check.fault(" " + word + " 1", 0);
        }
        Check.fault("gap 1 ", 5);
        Check.fault("gap 1; gap 1", 6);
        Check.fault("park y ", 6);
        Check.fault("let g=1 ", 7);
        Check.fault("let g=1& g=1", 8);
        Check.fault("let (g=1 )", 8);
        Check.fault("let y <1", 5);
    }

    private static void let(LinesPromised x, String e, int want) {
        Check.tape(x, "let " + e);
        Check.due("bills by let " + e, x.tried(1), want);
    }

    /** A bill of 10 yards and gauge 1: y<2 is so, y<1 is not. */
    private static LinesPromised oneBill() {
        LinesPromised x = new LinesPromised();
        x.town(0, 0);
        x.town(1, 0);
        x.scheme(0, 1, 1, 1);
        Check.plan(x, 0, 0, 1);
        Check.due("bill", x.bill(1), 2);
        return x;
    }

    private static void expressions() {
        LinesPromised x = oneBill();
        Says.term(3, "E: T, or T|E.");
        for (int bits = 0; bits < 8; bits++) {
            String a = "g=" + (bits & 1);
            String b = "g=" + (bits >> 1 & 1);
            String c = "g=" + (bits >> 2);
            let(x, a + "|" + b, bits % 4 == 0 ? 0 : 1);
            let(x, a + "|" + b + "|" + c, bits == 0 ? 0 : 1);
            let(x, a + "&" + b + "|" + c, bits == 7 || bits == 3 || bits > 3 ? 1 : 0);
            let(x, c + "|" + a + "&" + b, bits == 3 || bits > 3 ? 1 : 0);
        }
        Check.fault("let |g=1", 4);
        Check.fault("let g=1|", 8);
        Check.fault("let g=1||g=1", 8);
        Says.term(3, "T: F, or F&T.");
        for (int bits = 0; bits < 8; bits++) {
            String a = "g=" + (bits & 1);
            String b = "g=" + (bits >> 1 & 1);
            String c = "g=" + (bits >> 2);
            let(x, a + "&" + b, bits % 4 == 3 ? 1 : 0);
            let(x, a + "&" + b + "&" + c, bits == 7 ? 1 : 0);
        }
        Check.fault("let &g=1", 4);
        Check.fault("let g=1&", 8);
        Check.fault("let g=1&|g=1", 8);
        Says.term(3, "F: !F, (E),");
        for (int a = 0; a < 2; a++) {
            let(x, "!g=" + a, 1 - a);
            let(x, "!!g=" + a, a);
            let(x, "(g=" + a + ")", a);
            let(x, "!(g=" + a + ")", 1 - a);
            let(x, "(!g=" + a + ")", 1 - a);
            for (int b = 0; b < 2; b++) {
                let(x, "!g=" + a + "&g=" + b, (1 - a) & b);
                let(x, "!g=" + a + "|g=" + b, (1 - a) | b);
                let(x, "!(g=" + a + "&g=" + b + ")", 1 - (a & b));
                let(x, "(g=" + a + "|g=" + b + ")&g=0", 0);
                let(x, "g=1&(g=" + a + "|g=" + b + ")", a | b);
            }
        }
        Check.fault("let !", 5);
        Check.fault("let (", 5);
        Check.fault("let ()", 5);
        Check.fault("let (g=1", 8);
        Check.fault("let g=1)", 7);
        Check.fault("let (g=1))", 9);
        Check.fault("let (g=1;gap 1)", 8);
    }

    private static void numbersOfLet() {
        LinesPromised x = oneBill();
        Says.term(3, "or one of y t w r c with < or > and a number likewise,");
        for (String letter : "y t w r c".split(" ")) {
            int is = letter.equals("y") ? 1 : 0;
            let(x, letter + "<0", 0);
            let(x, letter + "<1", 1 - is);
            let(x, letter + "<2", 1);
            let(x, letter + ">0", is);
            let(x, letter + ">1", 0);
            let(x, letter + "<999", 1);
            let(x, letter + ">999", 0);
            Check.fault("let " + letter, 5);
            Check.fault("let " + letter + "=1", 5);
            Check.fault("let " + letter + "<", 6);
            Check.fault("let " + letter + "<>1", 6);
            Check.fault("let " + letter + "<-1", 6);
            Check.fault("let " + letter + ">01", 7);
            Check.fault("let " + letter + ">1000", 9);
        }
        for (char letter = 0; letter < 256; letter++) {
            if ("ytwrcg!(".indexOf(letter) < 0) Check.fault("let " + letter + "<1", 4);
        }
        Says.term(3, "or g= and 0 or 1.");
        let(x, "g=0", 0);
        let(x, "g=1", 1);
        Check.fault("let g", 5);
        Check.fault("let g<1", 5);
        Check.fault("let g>0", 5);
        Check.fault("let g=", 6);
        Check.fault("let g=2", 6);
        Check.fault("let g=-1", 6);
        Check.fault("let g=/", 6);
        Check.fault("let g=00", 7);
        Check.fault("let g=10", 7);
    }

    private static void open() {
        Says.term(3, "At most 5 of ! and ( are open (a ( till its ), a ! till its F ends).");
        LinesPromised x = oneBill();
        for (int bits = 0; bits < 32; bits++) {
            StringBuilder ahead = new StringBuilder("let ");
            StringBuilder behind = new StringBuilder();
            for (int i = 0; i < 5; i++) {
                ahead.append((bits >> i & 1) == 0 ? '!' : '(');
                if ((bits >> i & 1) != 0) behind.append(')');
            }
            proper(ahead + "y<1" + behind);
            let(x, ahead.substring(4) + "g=1" + behind, Integer.bitCount(bits) % 2 == 0 ? 0 : 1);
            let(x, ahead.substring(4) + "g=0" + behind, Integer.bitCount(bits) % 2 == 0 ? 1 : 0);
            proper(ahead + "y<1" + behind + "&" + ahead.substring(4) + "y<1" + behind);
            Check.fault(ahead + "!y<1" + behind, 9);
            Check.fault(ahead + "(y<1)" + behind, 9);
            Check.fault(ahead.toString(), 9);
            Check.fault(ahead + "y<1" + behind + ")", 12 + behind.length());
        }
        proper("let ((((!y<1&!y<2|!y<3))))");
        proper("let !!!!!y<1|!!!!!y<2");
        proper("let (((((y<1&y<2)|y<3)&y<1)))");
        proper("let !(!(!y<1|!y<1)&!y<1)&(((((y<1)))))");
        Check.fault("let !(!(!y<1|!!y<1))", 14);
        Check.fault("let ((((!y<1&(!y<1)))))", 14);
    }

    private static void faults() {
        Says.term(3, "FAULT: the place of the first byte with which no ORDER can go on");
        Check.fault("x", 0);
        Check.fault("gap 1x", 5);
        Check.fault("gap 1;slope 2;close x;nonsense", 20);
        Check.fault("sl", 2);
        Check.fault("sx", 1);
        Check.fault("stx", 2);
        Check.fault("slx", 2);
        Check.fault("clx", 2);
        Check.fault("cax", 2);
        Check.fault("slope1", 5);
        Check.fault("SLOPE 1", 0);
        Says.term(3, "(by its form; the size, if it ends too early).");
        String text = "gap 1;let !(y<2&g=1)|c>34;slope 5";
        for (int n = 0; n <= text.length(); n++) {
            String part = text.substring(0, n);
            boolean ends = part.matches("gap 1|.*\\)|.*c>3|.*c>34|.*slope 5");
            if (ends) proper(part); else Check.fault(part, n);
        }
    }

    private static void ordersInForce() {
        Says.term(3, "ORDERS are numbered from 0 on, 8 at most,");
        LinesPromised x = new LinesPromised();
        for (int i = 0; i < 8; i++) Check.order(x, "gap " + i, 0, i);
        Check.tape(x, "gap 8");
        Check.due("a ninth", x.text(0), -4);
        Check.due("eight", x.count(2), 8);
        Check.due("the last of eight is in force", x.force(4, 0), 7);
        Says.term(3, "each in force from a DAY on.");
        LinesPromised y = new LinesPromised();
        Check.order(y, "gap 3", 5, 0);
        Check.order(y, "call 3", 0, 1);
        Check.order(y, "slope 3", 999, 2);
        Check.due("the day ahead", y.force(4, 4), 10);
        Check.due("that day", y.force(4, 5), 3);
        Check.due("the last day", y.force(4, 999), 3);
        Check.due("from the first day on", y.force(3, 0), 3);
        Check.due("the day ahead of the last", y.force(0, 998), 99);
        Check.due("the last day", y.force(0, 999), 3);
    }

    private static void ruleOfADay() {
        Says.term(3, "THE RULE of a word on a DAY: the last CLAUSE of it");
        LinesPromised x = new LinesPromised();
        Check.order(x, "close 3;close 9;close 4;gap 5", 0, 0);
        Check.due("of three the last", x.force(1, 0), 4);
        Check.due("its place", x.why(1, 0), 2);
        Says.term(3, "in the ORDER of the greatest DAY (of like ones the greatest number)");
        Check.order(x, "close 5", 7, 1);
        Check.order(x, "close 6", 6, 2);
        Check.due("greatest day, not number", x.force(1, 7), 5);
        Check.due("why", x.why(1, 7), 100);
        Check.order(x, "gap 1;close 8", 7, 3);
        Check.due("of like days the greatest number", x.force(1, 7), 8);
        Check.due("why", x.why(1, 7), 301);
        Says.term(3, "of those in force then");
        Check.due("one of a day to come isn't", x.force(1, 6), 6);
        Check.due("one of a day to come isn't", x.force(1, 5), 4);
        Says.term(3, "that have one.");
        Check.order(x, "slope 1", 8, 4);
        Check.due("the latest has no close", x.force(1, 9), 8);
        Check.due("the older ones have no slope", x.force(0, 7), 99);
        Check.order(x, "let g=1", 2, 5);
        Check.due("let of an older day", x.why(6, 999), 500);
    }

    private static void withoutAny() {
        Says.term(3, "Without any: slope 99, close 2, stroke 999, call 50, gap 10, park y;");
        int[] usual = {99, 2, 999, 50, 10, 1, 0};
        LinesPromised x = new LinesPromised();
        for (int word = 0; word < 7; word++) {
            Check.due("word " + word, x.force(word, 0), usual[word]);
            Check.due("word " + word, x.force(word, 999), usual[word]);
        }
        Check.order(x, "slope 0;close 0;stroke 0;call 0;gap 0;park n;let g=0", 999, 0);
        for (int word = 0; word < 7; word++) {
            Check.due("ahead of all orders", x.force(word, 998), usual[word]);
            Check.due("then", x.force(word, 999), word == 6 ? 1 : 0);
        }
        Says.term(3, "without let every BILL can be LET.");
        LinesPromised y = Check.fourBills();
        for (int bill = 8; bill < 12; bill++) {
            Check.due("hear", y.hear(bill, 0), 1);
            Check.due("hear", y.hear(bill, 999), 1);
        }
        Check.tape(y, "gap 1");
        Check.due("tried", y.tried(1), 4);
    }

    private static void feed() {
        Says.promise(6, "The n lowest bytes of w, the highest first, come behind THE TAPE's: how many it has.");
        long w = 0x7F6761702034FFL >> 8;
        LinesPromised x = new LinesPromised();
        Check.due("five", x.feed(w, 5), 5);
        Check.due("behind these", x.feed(0xFFFFFFFFFFFFFF32L, 1), 6);
        Check.due("gap 42", x.text(0), 0);
        Check.due("gap 42", x.force(4, 0), 42);
        long eight = 0;
        for (char c : "let g=1;".toCharArray()) eight = eight << 8 | c;
        LinesPromised y = new LinesPromised();
        Check.due("all eight", y.feed(eight, 8), 8);
        Check.due("one of seven", y.text(0), -18);
        LinesPromised z = new LinesPromised();
        for (int n = 1, all = 0; n <= 8; n++) {
            all += n;
            Check.due("so many more", z.feed(-1L, n), all);
            Check.due("count", z.count(4), all);
        }
        Says.promise(6, "BAD: n not 1 .. 8; FULL.");
        Check.range("n", LinesPromised::new, (o, n) -> o.feed(0, n), 1, 8, -2);
        LinesPromised full = new LinesPromised();
        for (int i = 0; i < 17; i++) full.feed(0, 8);
        for (int n = 5; n <= 8; n++) Check.due("full for " + n, full.feed(0, n), -4);
        Check.due("refused ones add nothing", full.count(4), 136);
        Check.due("to the brim", full.feed(0, 4), 140);
        Check.due("full", full.feed(0, 1), -4);
        Check.due("bad ahead of full", full.feed(0, 0), -2);
        Check.due("bad ahead of full", full.feed(0, 9), -2);
        Check.due("140", full.count(4), 140);
    }

    private static void text() {
        Says.promise(7, "THE TAPE, which is empty then (by a FAULT, too), is an ORDER from a DAY on: its number; -10 less the FAULT.");
        LinesPromised x = new LinesPromised();
        Check.due("an empty tape", x.text(0), -10);
        Check.order(x, "gap 7", 3, 0);
        Check.due("empty then", x.count(4), 0);
        Check.due("not again", x.text(0), -10);
        Check.due("from that day on", x.force(4, 2), 10);
        Check.tape(x, "gap 7;gap x");
        Check.due("fault", x.text(0), -20);
        Check.due("empty then", x.count(4), 0);
        Check.due("no part of it is in force", x.force(4, 0), 10);
        Check.order(x, "gap 8", 3, 1);
        Says.promise(7, "BAD: day; FULL (THE TAPE stays with both).");
        Check.tape(x, "gap 9");
        Check.due("day", x.text(1000), -2);
        Check.due("day", x.text(-1), -2);
        Check.due("it stays", x.count(4), 5);
        Check.due("text", x.text(3), 2);
        for (int i = 3; i < 8; i++) Check.order(x, "gap 9", 4, i);
        Check.tape(x, "gap 1");
        Check.due("bad ahead of full", x.text(1000), -2);
        Check.due("full", x.text(999), -4);
        Check.due("it stays", x.count(4), 5);
        Check.tape(x, ";x", 5);
        Check.due("full ahead of a fault", x.text(999), -4);
        Check.due("it stays", x.count(4), 7);
        Check.due("its fault", x.tried(0), -16);
    }

    private static void force() {
        Says.promise(8, "THE RULE of a word (0 slope, 1 close, 2 stroke, 3 call, 4 gap, 5 park: 1 y, 0 n, 6 let: 1 there is one, 0)"
            + " on a DAY.");
        LinesPromised x = new LinesPromised();
        Check.order(x, "slope 11;close 12;stroke 13;call 14;gap 15;park n;let y<0", 1, 0);
        int[] due = {11, 12, 13, 14, 15, 0, 1};
        for (int word = 0; word < 7; word++) Check.due("word " + word, x.force(word, 1), due[word]);
        Check.order(x, "park y", 2, 1);
        Check.due("y", x.force(5, 2), 1);
        Check.due("no let yet", x.force(6, 0), 0);
        Says.promise(8, "NONE; BAD: day.");
        Check.range("word", LinesPromised::new, (y, n) -> y.force(n, 0), 0, 6, -1);
        Check.due("none ahead of bad", x.force(7, 1000), -1);
        Check.due("none ahead of bad", x.force(-1, -1), -1);
        Check.due("day of let", x.force(6, 1000), -2);
    }

    private static void why() {
        Says.promise(9, "By which CLAUSE: 100 times the ORDER, and its place (from 0); -5: none.");
        LinesPromised x = new LinesPromised();
        for (int word = 0; word < 7; word++) Check.due("none", x.why(word, 999), -5);
        for (int i = 0; i < 7; i++) Check.order(x, "gap 1", 0, i);
        Check.order(x, "call 1;call 1;call 1;call 1;call 1;call 1;slope 1;let g=1", 0, 7);
        Check.due("the last of all", x.why(6, 0), 707);
        Check.due("the sixth", x.why(3, 0), 705);
        Check.due("the seventh", x.why(0, 0), 706);
        Check.due("of the one ahead", x.why(4, 0), 600);
        Says.promise(9, "NONE; BAD.");
        Check.range("word", LinesPromised::new, (y, n) -> y.why(n, 0), 0, 6, -1);
        Check.due("none ahead of bad", x.why(7, 1000), -1);
        Check.due("bad", x.why(6, 1000), -2);
        Check.due("bad where there is none", x.why(5, -1), -2);
    }

    private static void triedIsAnOrder() {
        Says.term(7, "TRIED: with THE TAPE as an ORDER from TODAY on: how many PLANS (TORN ones, too) are CLOSE and not STEEP,");
        LinesPromised x = Check.fourBills();
        Check.plan(x, 0, 0, 1);
        Check.plan(x, 0, 79);
        x.land(1, 0, 1);
        Check.tape(x, "close 0");
        Check.due("not close: two whole ones and no torn one", x.tried(0), 4);
        Check.tape(x, "close 1");
        Check.due("torn ones, too", x.tried(0), 6);
        Check.tape(x, "slope 0;close 1");
        Check.due("not steep", x.tried(0), 4);
        Check.order(x, "close 0", 1, 0);
        Check.tape(x, "close 1");
        Check.due("an order of tomorrow", x.tried(0), 6);
        x.dig(1);
        Check.tape(x, "close 1");
        Check.due("of one day the greatest number", x.tried(0), 6);
        Check.tape(x, "gap 1");
        Check.due("beside the others", x.tried(0), 4);
        Says.term(7, "BILLS can be LET,");
        Check.tape(x, "let g=0");
        Check.due("bills", x.tried(1), 2);
        x.grant(8);
        Check.tape(x, "let g=0");
        Check.due("granted ones, too", x.tried(1), 2);
        Says.term(7, "what THE LEAST WAY of two TOWNS has.");
        Check.tape(x, "gap 1");
        Check.due("yards", x.tried(2), 36);
        Check.tape(x, "slope 0");
        Check.due("round", x.tried(2), 50);
        x.land(3, 0, 5);
        Check.tape(x, "slope 4");
        Check.due("none", x.tried(2), -5);
    }

    private static void tried() {
        Says.promise(43, "TRIED: what 0 PLANS, 1 BILLS, 2 YARDS of THE LEAST WAY of TOWNS 0 and 1 (-5: none, no such).");
        LinesPromised x = new LinesPromised();
        int[] due = {0, 0, -5};
        for (int what = 0; what < 3; what++) {
            Check.tape(x, "gap 1");
            Check.due("on a new object", x.tried(what), due[what]);
        }
        x.town(5, 0);
        Check.tape(x, "gap 1");
        Check.due("one town", x.tried(2), -5);
        x.town(8, 0);
        Check.tape(x, "gap 1");
        Check.due("two towns", x.tried(2), 30);
        x.town(6, 0);
        Check.tape(x, "gap 1");
        Check.due("of 0 and 1, though a third is nearer", x.tried(2), 30);
        Says.promise(43, "NONE: what (THE TAPE stays); -10 less the FAULT (THE TAPE is empty then, as behind each TRIED).");
        Check.range("what", () -> {
            LinesPromised y = Check.fourBills();
            Check.tape(y, "gap 1");
            return y;
        }, (y, n) -> y.tried(n), 0, 2, -1);
        Check.tape(x, "gap x");
        Check.due("no what, ahead of the fault", x.tried(3), -1);
        Check.due("it stays", x.count(4), 5);
        Check.due("fault", x.tried(2), -14);
        Check.due("it is empty then", x.count(4), 0);
        Check.due("the empty one has a fault", x.tried(2), -10);
        for (int what = 0; what < 3; what++) {
            Check.tape(x, "gap 1");
            x.tried(what);
            Check.due("empty behind each", x.count(4), 0);
        }
        Check.due("no order", x.count(2), 0);
        for (int i = 0; i < 8; i++) Check.order(x, "gap 3", 0, i);
        Check.tape(x, "slope 7");
        Check.due("though the orders are full", x.tried(2), 30);
        Check.due("they are as they were", x.force(0, 0), 99);
        Check.due("eight", x.count(2), 8);
        Check.tape(x, "slope 7");
        Check.due("and are full again", x.text(0), -4);
    }
}
