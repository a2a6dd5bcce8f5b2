/** Promises 45 to 47: image, undo, count. */
public final class ImageTest {
    public static void main(String[] args) {
        none();
        all();
        twice();
        papersComeAnew();
        count();
        Check.end();
    }

    private static void none() {
        LinesPromised x = new LinesPromised();
        Check.due("no image", x.undo(), -3);
        x.dig(3);
        Check.due("image", x.image(), 3);
        x.dig(2);
        Check.due("undo", x.undo(), 3);
        Check.due("it stays", x.undo(), 3);
    }

    private static void all() {
        LinesPromised x = Everything.rich();
        long was = Everything.of(x);
        Check.due("image", x.image(), 3);
        Everything.upset(x);
        Check.holds("all is other", Everything.of(x) != was);
        Check.due("undo", x.undo(), 3);
        Check.due("all is as it was", Everything.of(x), was);
        // the sheets, too
        Check.due("plan", x.chain(1, 0, 1), 15);
        Check.due("its cells", x.way(15, 12), 23);
        Check.due("its levels", x.level(15, 2), 10);
        // the tape, too
        Check.due("text", x.text(9), 1);
        Check.due("close", x.force(1, 9), 7);
        // what stands, too
        Check.due("trade", x.price(0), 2);
        Check.due("purse", x.purse(0, 4), 400 - 40);
        Check.due("undo", x.undo(), 3);
        Check.due("all is as it was", Everything.of(x), was);
        Everything.upset(x);
        long upset = Everything.of(x);
        x.undo();
        Everything.upset(x);
        Check.due("the same calls do the same again", Everything.of(x), upset);
    }

    private static void twice() {
        LinesPromised x = Everything.rich();
        x.image();
        Everything.upset(x);
        long was = Everything.of(x);
        Check.due("a later image", x.image(), 9);
        x.dig(1);
        x.coin(0, 1);
        Check.due("undo", x.undo(), 9);
        Check.due("as the later one", Everything.of(x), was);
    }

    private static void papersComeAnew() {
        LinesPromised x = Check.fourSchemes();
        x.image();
        Check.due("plan", Check.plan(x, 0, 0, 1, 2, 3), 4);
        x.bill(4);
        x.claim(0, 1);
        x.scheme(0, 2, 0, 5);
        Check.plan(x, 1, 3, 13, 23);
        x.bill(8);
        x.bar(5, 9);
        x.board(3, 5, true);
        x.board(3, 5, false);
        x.grant(5);
        x.coin(0, 500);
        x.lend(0, 0, 500);
        x.scrip(7, 0, 2);
        x.man(99);
        x.dig(1);
        Check.due("done", x.last(5, 1), 0);
        x.undo();
        Check.due("plan", Check.plan(x, 0, 0, 1, 2, 3), 4);
        Check.due("bill", x.bill(4), 5);
        Check.due("not granted", x.last(5, 0), -3);
        Check.due("no votes", x.doubled(), 0);
        x.scheme(0, 2, 0, 8);
        Check.due("no coins", x.purse(1, 6), 0);
        Check.due("all shares", x.held(6, 8), 8);
        Check.plan(x, 1, 3, 13, 23);
        Check.due("bill", x.bill(7), 8);
        x.claim(0, 1);
        Check.due("grant", x.grant(8), 1);
        Check.due("not done", x.last(8, 1), -5);
        Check.due("nobody bars", x.grant(5), 2);
        Check.due("not done", x.count(7), 0);
        Check.due("claims", x.count(1), 10);
        x.undo();
        Check.tape(x, "let c<1");
        x.text(0);
        Check.plan(x, 0, 0, 1, 2, 3);
        x.bill(4);
        Check.due("no claims are left", x.hear(5, 0), 1);
    }

    private static void count() {
        LinesPromised x = Everything.rich();
        int[] due = {4, 15, 1, 3, 7, 2, 1, 0, 1, 2, 4};
        for (int what = 0; what < due.length; what++) Check.due("count " + what, x.count(what), due[what]);
        Check.due("no what", x.count(11), -1);
        Check.due("no what", x.count(-1), -1);
        x.man(10);
        x.dig(1);
        Check.due("done", x.count(7), 1);
        Check.due("granted", x.count(6), 1);
    }
}
