/** Promises 1 to 5: a new object, land, towns, coins, men. */
public final class LandTest {
    public static void main(String[] args) {
        newObject();
        land();
        towns();
        coins();
        men();
        Check.end();
    }

    private static void newObject() {
        LinesPromised x = new LinesPromised();
        for (int what = 0; what <= 10; what++) Check.due("count " + what, x.count(what), 0);
        for (int cell = 0; cell < 80; cell++) {
            Check.due("height", x.land(cell, 0, 0), 0);
            Check.due("ground", x.land(cell, 1, 0), 0);
        }
        for (int holder = 0; holder < 8; holder++) Check.due("purse", x.purse(0, holder), 0);
        for (int sheet = 0; sheet < 4; sheet++) Check.due("item of a missing sheet", x.item(sheet, 0, 0), -11);
        Check.due("about no paper", x.about(0, 0), -1);
        Check.due("doubled", x.doubled(), 0);
        Check.due("meet", x.meet(), 0);
        Check.due("undo without an image", x.undo(), -3);
    }

    private static void land() {
        LinesPromised x = new LinesPromised();
        Check.due("height", x.land(79, 0, 99), 0);
        Check.due("height", x.land(79, 0, 0), 99);
        Check.due("ground", x.land(0, 1, 2), 0);
        Check.due("ground", x.land(0, 1, 1), 2);
        Check.due("height apart from ground", x.land(0, 0, 5), 0);
        Check.due("no cell", x.land(80, 0, 1), -1);
        Check.due("no cell", x.land(-1, 0, 1), -1);
        Check.due("no what", x.land(0, 2, 1), -1);
        Check.due("no what", x.land(0, -1, 1000), -1);
        Check.due("height too great", x.land(0, 0, 100), -2);
        Check.due("height too small", x.land(0, 0, -1), -2);
        Check.due("no such ground", x.land(0, 1, 3), -2);
        Check.due("no such ground", x.land(0, 1, -1), -2);
        Check.due("refusals change nothing", x.land(0, 0, 0), 5);
        Check.due("refusals change nothing", x.land(0, 1, 0), 1);
    }

    private static void towns() {
        LinesPromised x = new LinesPromised();
        Check.due("no cell", x.town(80, 100), -1);
        Check.due("no cell", x.town(-1, 0), -1);
        Check.due("trade", x.town(0, 100), -2);
        Check.due("trade", x.town(0, -1), -2);
        for (int i = 0; i < 6; i++) Check.due("town", x.town(79 - i, 99), i);
        Check.due("trade ahead of state", x.town(79, 100), -2);
        Check.due("state ahead of full", x.town(74, 0), -3);
        Check.due("full", x.town(0, 0), -4);
        Check.due("towns", x.count(0), 6);
    }

    private static void coins() {
        LinesPromised x = new LinesPromised();
        Check.due("coin", x.coin(7, 99999), 0);
        Check.due("coin", x.coin(7, 1), 99999);
        Check.due("coin of another", x.coin(0, 5), 0);
        Check.due("no holder", x.coin(8, -1), -1);
        Check.due("no holder", x.coin(-1, 0), -1);
        Check.due("coins", x.coin(7, 100000), -2);
        Check.due("coins", x.coin(7, -1), -2);
        Check.due("purse", x.purse(0, 7), 1);
    }

    private static void men() {
        LinesPromised x = new LinesPromised();
        Check.due("man", x.man(99), 0);
        Check.due("man", x.man(7), 99);
        Check.due("men", x.man(100), -2);
        Check.due("men", x.man(-1), -2);
        Check.due("count", x.count(5), 7);
    }
}
