/** Objects that have something of all, and all that their calls can tell. */
final class Everything {
    private Everything() {
    }

    static LinesPromised rich() {
        LinesPromised x = Check.fourBills();
        for (int h = 0; h < 8; h++) x.coin(h, 100 * h);
        x.man(2);
        Check.order(x, "gap 0;call 70;let t<90", 0, 0);
        Check.tape(x, "close 7");
        x.grant(8);
        x.lend(0, 5, 70);
        x.bar(9, 10);
        x.board(1, 8, true);
        x.board(1, 8, false);
        x.board(2, 9, true);
        x.board(5, 9, false);
        x.hand(4, 2);
        x.scrip(0, 1, 5);
        x.scrip(0, 2, 5);
        x.ask(0, 1, 2, 20, false);
        x.ask(0, 4, 2, 25, true);
        x.call(0, 60);
        x.claim(2, 9);
        x.dig(3);
        Check.row(x, 0, 0, 3, 13, 23);
        Check.row(x, 1, 2, 5, 5);
        x.sheet(3, -1, 0);
        return x;
    }

    /** As much of all as there can be: papers 15 to 59 are loans, schemes and claims; scheme 3 is fallen; an image is taken. */
    static LinesPromised full() {
        LinesPromised x = rich();
        x.lend(3, 7, 7);
        x.grant(11);
        x.man(9);
        x.dig(1);
        Check.due("scheme 3 fell", x.settle() >> 11, 1);
        for (int i = 4; i < 6; i++) x.town(70 + i, i);
        for (int i = 4; i < 12; i++) x.scheme(i % 6, (i + 1) % 6, 0, i);
        x.text(0);
        for (int i = 2; i < 8; i++) Check.order(x, "close " + i, i, i);
        for (int i = 0; i < 17; i++) x.feed(0x676170203031323BL + i, 8);
        x.feed(0x67617020L, 4);
        for (int i = x.count(8); i < 7; i++) x.hand(3 + i, 20);
        for (int i = x.count(9); i < 40; i++) x.ask(i % 4, i % 8, 3, 5, i % 2 == 0);
        for (int i = x.count(10); i < 60; i++) x.board(7, 10, true);
        for (int i = x.count(1); i < 60; i++) x.claim(i, 3);
        x.coin(6, 99999);
        x.image();
        return x;
    }

    /** All that the calls can tell that change nothing, as one number. */
    static long of(LinesPromised x) {
        long all = 17;
        for (int what = 0; what < 11; what++) all = 31 * all + x.count(what);
        for (int day = 0; day < 12; day++) {
            for (int word = 0; word < 7; word++) all = 31 * (31 * all + x.force(word, day)) + x.why(word, day);
        }
        for (int p = 0; p < x.count(1) + 2; p++) all = 31 * all + ofPaper(x, p);
        for (int h = 0; h < 8; h++) all = 31 * (31 * all + x.purse(0, h)) + x.along(0, h);
        for (int h = 1; h < 240; h += 3) all = 31 * (31 * all + x.midnight(h, -1)) + x.midnight(h, 0);
        all = 31 * (31 * all + x.doubled()) + x.meet();
        for (int towns = 0; towns < 64; towns++) all = 31 * (31 * all + x.gauge(towns)) + x.plan(towns, 999, 9999, 1);
        for (int day = 0; day < 9; day++) all = 31 * all + x.slope(0, 2, day, 0);
        return all;
    }

    private static long ofPaper(LinesPromised x, int p) {
        long all = 0;
        for (int what = 0; what < 8; what++) all = 31 * all + x.about(p, what);
        for (int what = 0; what < 20; what++) all = 31 * all + x.way(p, what);
        for (int i = 0; i < 9; i++) all = 31 * (31 * all + x.held(p, i)) + x.level(p, i);
        for (int day = 0; day < 9; day++) all = 31 * (31 * (31 * all + x.known(p, day)) + x.hear(p, day)) + x.close(p, 0, day);
        for (int other = 4; other < 8; other++) all = 31 * all + x.quarrel(p, other);
        all = 31 * (31 * (31 * all + x.purse(1, p)) + x.read(p)) + x.along(1, p);
        return 31 * (31 * (31 * all + x.last(p, 0)) + x.last(p, 1)) + x.cast(p, 0);
    }

    /** Changes something of all, as far as it isn't refused. */
    static void upset(LinesPromised x) {
        x.price(0);
        for (int h = 0; h < 8; h++) x.coin(h, 7);
        x.land(1, 0, 50);
        x.land(2, 1, 2);
        x.town(60, 3);
        x.text(1);
        x.tried(0);
        Check.tape(x, "slope 0;park n");
        x.text(0);
        x.tried(0);
        Check.tape(x, "x");
        x.grant(9);
        x.bar(8, 11);
        x.board(2, 9, false);
        x.board(5, 9, true);
        x.hand(1, 1);
        x.scrip(1, 3, 5);
        x.ask(1, 6, 3, 50, true);
        x.ask(2, 7, 4, 60, true);
        x.ask(2, 0, 1, 1, false);
        x.claim(3, 9);
        x.dig(2);
        x.settle();
        x.scheme(0, 2, 1, 4);
        x.man(50);
        x.dig(4);
        Check.row(x, 0, 1, 4);
        x.sheet(1, -1, 0);
        Check.row(x, 2, 2, 4);
    }

    /** The same, and what comes of it when all goes on: what no call tells by itself (tape, sheets, image) is seen, too. */
    static long andOn(LinesPromised x) {
        long all = of(x);
        all = 31 * all + x.feed(0x3BL, 1);
        all = 31 * (31 * all + x.tried(0)) + x.count(4);
        for (int cell = 0; cell < 80; cell++) all = 31 * (31 * all + x.land(cell, 0, cell % 3)) + x.land(cell, 1, 0);
        for (int sheet = 0; sheet < 4; sheet++) {
            for (int i = -1; i < 41; i++) all = 31 * all + x.copy(sheet, i, sheet, i, 1);
            for (int other = 0; other < 4; other++) all = 31 * all + x.copy(sheet, 0, other, 0, 1);
            all = 31 * all + x.chain(1, sheet, 1);
        }
        for (int bill = 8; bill < 12; bill++) all = 31 * all + x.grant(bill);
        for (int scheme = 0; scheme < 4; scheme++) all = 31 * all + x.price(scheme);
        all = 31 * (31 * (31 * all + of(x)) + x.settle()) + x.dig(3);
        upset(x);
        all = 31 * all + of(x);
        return 31 * (31 * all + x.undo()) + of(x);
    }
}
