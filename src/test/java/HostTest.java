/** Promises 48 to 50: sheet, item, copy. A row of bytes is read by chain, and so is one of ints. */
public final class HostTest {
    public static void main(String[] args) {
        constants();
        sheets();
        items();
        copies();
        copiedRows();
        Check.end();
    }

    private static void constants() {
        Check.due("NONE", LinesPromised.NONE, -1);
        Check.due("BAD", LinesPromised.BAD, -2);
        Check.due("STATE", LinesPromised.STATE, -3);
        Check.due("FULL", LinesPromised.FULL, -4);
    }

    private static void sheets() {
        LinesPromised x = new LinesPromised();
        Check.due("no sheet", x.sheet(4, 9, -1), -1);
        Check.due("no sheet", x.sheet(-1, 0, 0), -1);
        Check.due("sort", x.sheet(0, 3, -1), -2);
        Check.due("sort", x.sheet(0, -2, 1), -2);
        Check.due("too many", x.sheet(0, 0, 41), -2);
        Check.due("below 0", x.sheet(0, 0, -1), -14);
        Check.due("below 0", x.sheet(0, 2, Integer.MIN_VALUE), -14);
        Check.due("too many", x.sheet(0, 2, Integer.MAX_VALUE), -2);
        Check.due("refusals leave it missing", x.item(0, 0, 0), -11);
        for (int sort = 0; sort < 3; sort++) Check.due("sheet", x.sheet(sort, sort, 40), 1);
        Check.due("the last of 40", x.item(0, 39, 1), 1);
        Check.due("none behind", x.item(0, 40, 1), -12);
        Check.due("missing, n below 0", x.sheet(0, -1, -5), 1);
        Check.due("missing, n above 40", x.sheet(1, -1, 99), 1);
        Check.due("missing", x.item(0, 0, 1), -11);
        Check.due("of none", x.sheet(0, 0, 0), 1);
        Check.due("of none", x.item(0, 0, 0), -12);
        LinesPromised y = towns();
        Check.row(y, 0, 0, 5, 6);
        Check.due("sheet again", y.sheet(0, 0, 2), 1);
        y.item(0, 1, 1);
        y.chain(0, 0, 1);
        Check.due("all 0", y.way(1, 0), 2);
    }

    /** Towns in cells 0 and 1, and a scheme. */
    private static LinesPromised towns() {
        LinesPromised x = new LinesPromised();
        x.town(0, 0);
        x.town(1, 0);
        x.scheme(0, 1, 0, 1);
        return x;
    }

    private static void items() {
        LinesPromised x = towns();
        Check.due("no sheet", x.item(4, 0, 0), -1);
        Check.due("no sheet", x.item(-1, -1, 0), -1);
        Check.due("missing", x.item(0, -1, 0), -11);
        Check.row(x, 0, 0, 256, 257);
        Check.row(x, 1, 2, 40000);
        Check.due("outside", x.item(0, 2, 0), -12);
        Check.due("outside", x.item(0, -1, 0), -12);
        Check.due("outside", x.item(0, Integer.MAX_VALUE, 0), -12);
        x.chain(0, 0, 1);
        Check.due("the lowest bits of bytes", x.way(1, 0), 2);
        Check.due("ints as they are", x.level(1, 1), 10000);
        Check.due("a byte of more than 127 is below 0", x.item(0, 1, 129), 1);
        x.chain(0, 0, 1);
        Check.due("it tears", x.way(2, 1), 1);
    }

    private static void copies() {
        LinesPromised x = new LinesPromised();
        Check.due("no sheet", x.copy(4, 0, 0, 0, 0), -1);
        Check.due("no sheet", x.copy(0, 0, -1, 0, 0), -1);
        Check.due("missing", x.copy(0, 0, 1, 0, -1), -11);
        x.sheet(0, 0, 5);
        Check.due("missing", x.copy(0, 0, 1, 0, 1), -11);
        Check.due("missing", x.copy(1, 0, 0, 0, 1), -11);
        x.sheet(1, 1, 5);
        Check.due("sorts", x.copy(0, 0, 1, 0, -1), -13);
        Check.due("sorts", x.copy(1, 9, 0, 0, 1), -13);
        x.sheet(1, 0, 3);
        Check.due("copy", x.copy(0, 2, 1, 0, 3), 3);
        Check.due("copy nothing", x.copy(0, 5, 1, 3, 0), 0);
        int[][] outside = {{-1, 0, 1}, {0, -1, 1}, {0, 0, -1}, {3, 0, 3}, {0, 1, 3}, {6, 0, 0}, {0, 4, 0}, {0, 0, 4},
            {Integer.MAX_VALUE, 0, 1}, {0, Integer.MAX_VALUE, Integer.MAX_VALUE}, {1, 1, Integer.MAX_VALUE},
            {Integer.MIN_VALUE, 0, Integer.MIN_VALUE}};
        for (int[] o : outside) Check.due("outside", x.copy(0, o[0], 1, o[1], o[2]), -12);
    }

    private static void copiedRows() {
        LinesPromised x = Check.fourSchemes();
        Check.row(x, 0, 0, 0, 1, 2, 3, 9);
        Check.row(x, 1, 0, 7, 7, 7, 7, 7);
        Check.due("copy", x.copy(0, 1, 1, 2, 3), 3);
        x.item(1, 1, 0);
        Check.due("copy back by one, over itself", x.copy(1, 1, 1, 0, 4), 4);
        x.chain(0, 1, 2);
        Check.due("cells", x.way(4, 0), 4);
        Check.due("and on by one, over itself", x.copy(0, 0, 0, 1, 4), 4);
        x.item(0, 0, 10);
        Check.due("what was copied stays apart", x.copy(0, 1, 1, 0, 4), 4);
        x.item(0, 1, 50);
        x.chain(0, 1, 2);
        Check.due("cells", x.way(5, 1), -5);
        Check.row(x, 2, 2, 11, 12, 13);
        Check.row(x, 3, 2, 0, 0, 0);
        x.copy(2, 1, 3, 0, 2);
        x.chain(0, 1, 3);
        Check.due("ints", x.level(6, 1), 12);
        Check.due("ints", x.level(6, 2), 25);
        Check.due("ints", x.level(6, 3), 25);
    }
}
