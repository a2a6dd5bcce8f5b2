import java.util.Arrays;

/** The sentences of term 4 and of promises 11 to 16, each with a test of its own. */
final class SaysPlans {
    /** Forty cells from the first town on, the rows there and back. */
    private static final int[] SNAKE = new int[40];

    static {
        for (int i = 0; i < 40; i++) SNAKE[i] = i / 10 % 2 == 0 ? i : 10 * (i / 10) + 9 - i % 10;
    }

    private SaysPlans() {
    }

    static void all() {
        rows();
        itsWay();
        torn();
        longest();
        levelZero();
        rises();
        olderSurvey();
        missing();
        close();
        steep();
        ruleOfTheDay();
        quarrels();
        yards();
        leastYards();
        longestLeastWay();
        noSteeperStep();
        noPark();
        lessCells();
        chain();
        way();
        level();
        closeCall();
        quarrel();
        slope();
    }

    /** Towns in two cells and a scheme between them. */
    private static LinesPromised towns(int a, int b) {
        LinesPromised x = new LinesPromised();
        x.town(a, 0);
        x.town(b, 0);
        Check.due("scheme", x.scheme(0, 1, 0, 1), 0);
        return x;
    }

    /** A plan of scheme 0 with its row of cells in sheet 0 and its row of rises in sheet 1. */
    private static int made(LinesPromised x, int[] cells, int... rises) {
        Check.row(x, 0, 0, cells);
        Check.row(x, 1, 2, rises);
        return x.chain(0, 0, 1);
    }

    private static void rows() {
        Says.term(4, "A PLAN is made of a SCHEME with a row of CELLS (a SHEET of bytes) and a row of RISES (a SHEET of ints).");
        LinesPromised x = towns(0, 2);
        Check.row(x, 3, 0, 0, 1, 2);
        Check.row(x, 2, 2, 5, 6);
        Check.due("plan", x.chain(0, 3, 2), 1);
        x.sheet(3, -1, 0);
        x.item(2, 0, 99);
        for (int i = 0; i < 3; i++) Check.due("its cells stay", x.way(1, 10 + i), i);
        Check.due("its levels stay", x.level(1, 1), 5);
        Check.due("its levels stay", x.level(1, 2), 11);
        Check.due("it is of the scheme", x.about(1, 1), 0);
    }

    private static void torn(LinesPromised x, int at, int... cells) {
        int plan = Check.plan(x, 0, cells);
        String what = Arrays.toString(cells);
        int stay = at == -5 ? cells.length : at;
        Check.due("where torn: " + what, x.way(plan, 1), at);
        Check.due("how many cells: " + what, x.way(plan, 0), stay);
        for (int i = 0; i < stay; i++) Check.due("a cell of " + what, x.way(plan, 10 + i), cells[i]);
        Check.due("no cell behind: " + what, x.way(plan, 10 + stay), -1);
    }

    private static void itsWay() {
        Says.term(4, "Its WAY: the first TOWN's CELL (place 0 of the row), and then each next one BESIDE the one ahead,"
            + " to the second TOWN's; no CELL twice.");
        LinesPromised x = towns(11, 13);
        torn(x, -5, 11, 12, 13);
        torn(x, -5, 11, 1, 2, 3, 13);
        torn(x, -5, 11, 21, 22, 12, 2, 3, 13);
        torn(x, 0, 13, 12, 11);
        torn(x, 0, 12, 13);
        torn(x, 1, 11, 13);
        torn(x, 1, 11, 22, 12, 13);
        torn(x, 1, 11, 11, 12, 13);
        torn(x, 2, 11, 12, 12, 13);
        torn(x, 2, 11, 12, 11, 12, 13);
        torn(x, 4, 11, 12, 22, 21, 11, 12, 13);
        int plan = Check.plan(x, 0, 11, 12, 13, 14, 99);
        Check.due("it ends with the second town", x.way(plan, 0), 3);
        Check.due("whole", x.way(plan, 1), -5);
        plan = Check.plan(x, 0, 11, 12, 13, 12, 11);
        Check.due("it ends with the second town", x.way(plan, 0), 3);
        x.town(12, 0);
        torn(x, -5, 11, 12, 13);
    }

    private static void torn() {
        Says.term(4, "It goes no farther than the row: the first number that is none such, or the end of the row ahead of that TOWN,"
            + " is where it is TORN (its number from 0 on); the CELLS ahead stay.");
        LinesPromised x = towns(0, 2);
        torn(x, 0);
        torn(x, 0, 1);
        torn(x, 0, 79);
        torn(x, 0, -1);
        torn(x, 0, 80);
        torn(x, 1, 0);
        torn(x, 2, 0, 1);
        torn(x, 1, 0, -1);
        torn(x, 1, 0, -10);
        torn(x, 1, 0, 80);
        torn(x, 1, 0, 127);
        torn(x, 1, 0, -128);
        torn(x, 2, 0, 1, 0);
        LinesPromised y = towns(79, 0);
        torn(y, 1, 79, 80);
        torn(y, 1, 79, 89);
        torn(y, 1, 79, 70);
        torn(y, 2, 79, 78, 88);
        LinesPromised z = towns(9, 10);
        torn(z, 1, 9, 10);
        torn(z, 1, 9, -1);
        LinesPromised w = towns(70, 9);
        torn(w, 1, 70, 69);
        torn(w, 1, 70, 80);
    }

    private static void longest() {
        LinesPromised x = towns(0, 30);
        torn(x, -5, SNAKE);
        int plan = Check.plan(x, 0, SNAKE);
        Check.due("yards of 39 steps", x.way(plan, 2), 390);
        Check.due("the last level", x.level(plan, 39), 0);
        Check.due("no level behind it", x.level(plan, 40), -1);
        Check.due("worth", x.cast(plan, 2), 10 + 1 + 40);
        Check.due("bill", x.bill(plan), plan + 1);
        LinesPromised y = towns(0, 40);
        torn(y, 40, SNAKE);
    }

    private static void levelZero() {
        Says.term(4, "LEVELS: of CELL 0 of the WAY its HEIGHT (as the PLAN is made);");
        LinesPromised x = towns(0, 1);
        x.land(0, 0, 99);
        made(x, new int[] {0, 1}, 7, 8);
        Check.due("level 0", x.level(1, 0), 99);
        x.land(0, 0, 0);
        Check.due("as the plan was made", x.level(1, 0), 99);
        made(x, new int[] {0, 1});
        Check.due("without rises", x.level(2, 0), 0);
        made(x, new int[] {1}, 5);
        Check.due("a way of no cells has none", x.level(3, 0), -1);
    }

    private static void rises() {
        Says.term(4, "of each next one that of the one ahead, and its RISE (place 0 is that of CELL 1);");
        LinesPromised x = towns(0, 3);
        x.land(0, 0, 10);
        made(x, new int[] {0, 1, 2, 3}, 1, 20, -300);
        int[] due = {10, 11, 31, -269};
        for (int i = 0; i < 4; i++) Check.due("level " + i, x.level(1, i), due[i]);
        made(x, new int[] {0, 1, 2, 3}, 0, 0, 0, 50);
        Check.due("a rise too many is nobody's", x.level(2, 3), 10);
    }

    private static void olderSurvey() {
        Says.term(4, "a RISE of 1000000 is the older survey's (the difference of HEIGHTS as the PLAN is made),"
            + " others count as 10000, or -10000, at most;");
        LinesPromised x = towns(0, 3);
        x.land(0, 0, 50);
        x.land(1, 0, 80);
        x.land(2, 0, 5);
        made(x, new int[] {0, 1, 2, 3}, 1000000, 1000000, 1);
        x.land(1, 0, 0);
        int[] due = {50, 80, 5, 6};
        for (int i = 0; i < 4; i++) Check.due("level " + i, x.level(1, i), due[i]);
        made(x, new int[] {0, 1, 2, 3}, 3, 1000000, 0);
        Check.due("the difference behind another rise", x.level(2, 2), 53 + 5);
        int[] told = {10000, 10001, 999999, 1000001, Integer.MAX_VALUE, 9999};
        int[] count = {10000, 10000, 10000, 10000, 10000, 9999};
        for (int i = 0; i < told.length; i++) {
            int plan = made(x, new int[] {0, 1, 2, 3}, told[i], -told[i], -told[i]);
            Check.due("up " + told[i], x.level(plan, 1), 50 + count[i]);
            Check.due("down again", x.level(plan, 2), 50);
            Check.due("down " + told[i], x.level(plan, 3), 50 - count[i]);
        }
        int plan = made(x, new int[] {0, 1, 2, 3}, -1000000, Integer.MIN_VALUE, 0);
        Check.due("the same below 0 is none of it", x.level(plan, 1), 50 - 10000);
        Check.due("the least of all", x.level(plan, 2), 50 - 20000);
        LinesPromised y = towns(0, 30);
        int[] most = new int[40];
        Arrays.fill(most, Integer.MAX_VALUE);
        made(y, SNAKE, most);
        Check.due("39 times 10000", y.level(1, 39), 390000);
        Arrays.fill(most, Integer.MIN_VALUE);
        made(y, SNAKE, most);
        Check.due("39 times -10000", y.level(2, 39), -390000);
    }

    private static void missing() {
        Says.term(4, "where the row of RISES has ended, or is missing, the LEVELS are MISSING from there on.");
        LinesPromised x = towns(0, 3);
        int[] cells = {0, 1, 2, 3};
        int[] row = {4, 4, 4};
        for (int told = 0; told <= 3; told++) {
            int plan = made(x, cells, Arrays.copyOf(row, told));
            for (int i = 0; i < 4; i++) Check.due(told + " rises, level " + i, x.level(plan, i), i <= told ? 4 * i : -1000000);
            Check.due("where it isn't close", x.close(plan, 0, 0), 1);
        }
        x.sheet(1, -1, 0);
        int plan = x.chain(0, 0, 1);
        Check.due("missing: level 0 is there", x.level(plan, 0), 0);
        for (int i = 1; i < 4; i++) Check.due("missing: level " + i, x.level(plan, i), -1000000);
    }

    private static void close() {
        Says.term(4, "CLOSE: all LEVELS are there and none is farther from the HEIGHT (as now) than close;"
            + " else the first CELL of the WAY where not.");
        for (int off = -3; off <= 3; off++) {
            for (int at = 0; at < 3; at++) {
                LinesPromised x = towns(0, 2);
                for (int cell = 0; cell < 3; cell++) x.land(cell, 0, 50);
                made(x, new int[] {0, 1, 2}, 0, 0);
                x.land(at, 0, 50 + off);
                Check.due("cell " + at + " off by " + off, x.close(1, 0, 0), Math.abs(off) > 2 ? at : -5);
                x.land(2, 0, 90);
                Check.due("the first", x.close(1, 0, 0), Math.abs(off) > 2 ? at : 2);
            }
        }
        LinesPromised y = towns(0, 2);
        made(y, new int[] {0, 1, 2}, 0);
        Check.due("a level is missing", y.close(1, 0, 0), 2);
        y.land(0, 0, 3);
        Check.due("one ahead of it is far off", y.close(1, 0, 0), 0);
        made(y, new int[] {});
        Check.due("a way of no cells has all its levels", y.close(2, 0, 0), -5);
        y.land(0, 0, 99);
        made(y, new int[] {0, 9}, 7);
        Check.due("a torn one, by the cells ahead", y.close(3, 0, 0), -5);
        y.land(0, 0, 96);
        Check.due("by its cell in the way, not of the land", y.close(3, 0, 0), 0);
    }

    private static void steep() {
        Says.term(4, "STEEP: the first CELL of the WAY that is higher or lower (as now) than the one ahead by more than slope.");
        int[] slopes = {0, 1, 5, 98};
        for (int i = 0; i < slopes.length; i++) {
            LinesPromised x = towns(10, 13);
            Check.order(x, "slope " + slopes[i], 0, 0);
            Check.plan(x, 0, 10, 11, 12, 13);
            Check.due("flat", x.close(1, 1, 0), -5);
            for (int at = 1; at < 4; at++) {
                for (int cell = 10; cell < 14; cell++) x.land(cell, 0, cell < 10 + at ? 0 : slopes[i]);
                Check.due("up by slope", x.close(1, 1, 0), -5);
                for (int cell = 10; cell < 14; cell++) x.land(cell, 0, cell < 10 + at ? 0 : slopes[i] + 1);
                Check.due("up by more", x.close(1, 1, 0), at);
                for (int cell = 10; cell < 14; cell++) x.land(cell, 0, cell < 10 + at ? slopes[i] : 0);
                Check.due("down by slope", x.close(1, 1, 0), -5);
                for (int cell = 10; cell < 14; cell++) x.land(cell, 0, cell < 10 + at ? slopes[i] + 1 : 0);
                Check.due("down by more", x.close(1, 1, 0), at);
            }
        }
        LinesPromised y = towns(0, 2);
        y.land(0, 0, 99);
        Check.plan(y, 0, 0, 1, 2);
        Check.due("the usual slope is never too little", y.close(1, 1, 0), -5);
        Check.order(y, "slope 98", 0, 0);
        Check.due("by its cell in the way, not of the land", y.close(1, 1, 0), 1);
        Check.plan(y, 0, 0);
        Check.due("one cell", y.close(2, 1, 0), -5);
        Check.plan(y, 0);
        Check.due("no cells", y.close(3, 1, 0), -5);
    }

    private static void ruleOfTheDay() {
        Says.term(4, "By THE RULE of the DAY asked.");
        LinesPromised x = towns(0, 1);
        x.land(1, 0, 5);
        made(x, new int[] {0, 1}, 0);
        Check.order(x, "close 5;slope 4", 3, 0);
        Check.due("close on day 2", x.close(1, 0, 2), 1);
        Check.due("close on day 3", x.close(1, 0, 3), -5);
        Check.due("steep on day 2", x.close(1, 1, 2), -5);
        Check.due("steep on day 3", x.close(1, 1, 3), 1);
        x.dig(3);
        Check.due("a day ahead of today", x.close(1, 0, 0), 1);
    }

    private static void quarrels() {
        Says.term(4, "QUARREL of two PLANS: the first CELL of the first one's WAY for which both tell LEVELS that differ.");
        LinesPromised x = towns(0, 3);
        x.scheme(1, 0, 0, 1);
        int[] there = {0, 1, 2, 3};
        made(x, there, 1, 1, 1);
        made(x, there, 1, 1, 1);
        Check.due("alike", x.quarrel(2, 3), -5);
        made(x, there, 1, 1, 2);
        Check.due("in the last alone", x.quarrel(2, 4), 3);
        made(x, there, 1, 1);
        Check.due("where one is missing", x.quarrel(2, 5), -5);
        Check.due("where one is missing", x.quarrel(5, 4), -5);
        made(x, new int[] {0, 10, 11, 12, 13, 3}, 9, 9, 9, 9, 9);
        Check.due("but the ends no cell in common", x.quarrel(6, 2), 3);
        Check.row(x, 0, 0, 3, 2, 1, 0);
        Check.row(x, 1, 2, 7, 7, 7);
        Check.due("back", x.chain(1, 0, 1), 7);
        Check.due("first of the one", x.quarrel(7, 2), 3);
        Check.due("first of the other", x.quarrel(2, 7), 0);
        x.land(0, 0, 4);
        made(x, there);
        Check.due("in cell 0 alone: the land was other", x.quarrel(8, 5), 0);
        made(x, new int[] {});
        Check.due("with one of no cells", x.quarrel(2, 9), -5);
        Check.due("of one of no cells", x.quarrel(9, 2), -5);
    }

    private static void yards() {
        Says.term(4, "YARDS from a CELL to one BESIDE it: 10, 3 for each of difference of HEIGHTS, 20 more to a RIVER, 5 more to a PARK.");
        int[] differences = {0, 1, 2, 50, 99};
        for (int d : differences) {
            for (int ground = 0; ground < 3; ground++) {
                LinesPromised x = towns(0, 1);
                x.scheme(1, 0, 0, 1);
                Check.plan(x, 0, 0, 1);
                Check.plan(x, 1, 1, 0);
                x.land(1, 1, ground);
                x.land(1, 0, d);
                int to = 10 + 3 * d + (ground == 1 ? 20 : ground == 2 ? 5 : 0);
                Check.due("up, to ground " + ground, x.way(2, 2), to);
                Check.due("down, from ground " + ground, x.way(3, 2), 10 + 3 * d);
                Check.due("up, the least", x.slope(0, 1, 0, 0), to);
                Check.due("down, the least", x.slope(1, 0, 0, 0), 10 + 3 * d);
                x.land(0, 0, d);
                Check.due("level", x.way(3, 2), 10);
            }
        }
    }

    private static void leastYards() {
        Says.term(4, "THE LEAST WAY of two TOWNS on a DAY: of least YARDS,");
        LinesPromised x = towns(0, 2);
        Check.due("straight", x.slope(0, 1, 0, 0), 20);
        x.land(1, 0, 3);
        Check.due("38 up and down, less than 40", x.slope(0, 1, 0, 0), 38);
        Check.due("straight", x.slope(0, 1, 0, 1), 3);
        x.land(1, 0, 4);
        Check.due("not 44 but 40", x.slope(0, 1, 0, 0), 40);
        Check.due("round", x.slope(0, 1, 0, 1), 5);
        Check.due("back", x.slope(1, 0, 0, 0), 40);
        LinesPromised y = towns(0, 79);
        Check.due("from corner to corner", y.slope(0, 1, 0, 0), 160);
        Check.due("cells", y.slope(0, 1, 0, 1), 17);
        LinesPromised z = towns(44, 45);
        for (int cell = 0; cell < 80; cell++) z.land(cell, 1, 1);
        z.land(45, 0, 99);
        Check.due("of the dearest step", z.slope(0, 1, 0, 0), 10 + 297 + 20);
    }

    /** Rows of walls that leave but one way through all the land. */
    private static void longestLeastWay() {
        LinesPromised x = towns(0, 60);
        for (int row = 1; row < 8; row += 2) {
            for (int column = 0; column < 10; column++) {
                if (column != (row % 4 == 1 ? 9 : 0)) x.land(10 * row + column, 0, 99);
            }
        }
        Check.order(x, "slope 98", 0, 0);
        Check.due("cells", x.slope(0, 1, 0, 1), 43);
        Check.due("yards", x.slope(0, 1, 0, 0), 420);
        Check.due("the last cell", x.slope(0, 1, 0, 10 + 42), 60);
        Check.due("none behind it", x.slope(0, 1, 0, 10 + 43), -1);
        Check.due("the first cell", x.slope(0, 1, 0, 10), 0);
        Check.due("the eleventh", x.slope(0, 1, 0, 20), 19);
        x.land(30, 0, 99);
        Check.due("shut", x.slope(0, 1, 0, 0), -5);
    }

    private static void noSteeperStep() {
        Says.term(4, "with no step STEEPER than slope,");
        LinesPromised x = towns(10, 12);
        x.land(11, 0, 1);
        Check.order(x, "slope 0", 1, 0);
        Check.order(x, "slope 1", 2, 1);
        Check.due("by the usual slope", x.slope(0, 1, 0, 0), 26);
        Check.due("too steep by one", x.slope(0, 1, 1, 0), 40);
        Check.due("just not", x.slope(0, 1, 2, 0), 26);
        x.land(10, 0, 1);
        Check.due("up is flat, but down is steep", x.slope(0, 1, 1, 0), -5);
        Check.due("back, too", x.slope(1, 0, 1, 0), -5);
        x.land(12, 0, 1);
        Check.due("all flat", x.slope(0, 1, 1, 0), 20);
    }

    private static void noPark() {
        Says.term(4, "through no PARK (but the CELLS of these TOWNS) if park is n;");
        LinesPromised x = towns(10, 12);
        Check.order(x, "park n", 1, 0);
        Check.order(x, "park y", 2, 1);
        x.land(11, 1, 2);
        Check.due("park y at first", x.slope(0, 1, 0, 0), 25);
        Check.due("park n", x.slope(0, 1, 1, 0), 40);
        Check.due("park y again", x.slope(0, 1, 2, 0), 25);
        x.land(10, 1, 2);
        x.land(12, 1, 2);
        Check.due("the towns' own cells", x.slope(0, 1, 1, 0), 45);
        x.town(11, 0);
        Check.due("the cell of another town", x.slope(0, 1, 1, 0), 45);
        Check.due("to it", x.slope(0, 2, 1, 0), 15);
        for (int cell : new int[] {0, 20}) x.land(cell, 1, 2);
        Check.due("shut in", x.slope(0, 1, 1, 0), -5);
        Check.due("shut in, from the other side", x.slope(1, 0, 1, 0), -5);
        Check.due("a plan may go there, for all that", x.close(Check.plan(x, 0, 10, 11, 12), 1, 1), -5);
        x.land(0, 1, 1);
        Check.due("a river is none", x.slope(0, 1, 1, 0), 10 + 20 + 10 + 10 + 15);
    }

    private static void least(LinesPromised x, int a, int b, int... cells) {
        Check.due("how many", x.slope(a, b, 0, 1), cells.length);
        for (int i = 0; i < cells.length; i++) Check.due("cell " + i, x.slope(a, b, 0, 10 + i), cells[i]);
    }

    private static void lessCells() {
        Says.term(4, "of several the one whose CELLS are less where they first differ.");
        LinesPromised x = towns(11, 13);
        x.land(12, 1, 1);
        least(x, 0, 1, 11, 1, 2, 3, 13);
        least(x, 1, 0, 13, 3, 2, 1, 11);
        x.land(2, 1, 2);
        least(x, 0, 1, 11, 12, 13);
        x.land(12, 0, 1);
        least(x, 0, 1, 11, 21, 22, 23, 13);
        LinesPromised y = towns(0, 33);
        least(y, 0, 1, 0, 1, 2, 3, 13, 23, 33);
        least(y, 1, 0, 33, 23, 13, 3, 2, 1, 0);
        y.land(3, 0, 1);
        least(y, 0, 1, 0, 1, 2, 12, 13, 23, 33);
        LinesPromised z = towns(30, 3);
        least(z, 0, 1, 30, 20, 10, 0, 1, 2, 3);
        least(z, 1, 0, 3, 2, 1, 0, 10, 20, 30);
        z.land(0, 1, 2);
        least(z, 0, 1, 30, 20, 10, 11, 1, 2, 3);
        least(z, 1, 0, 3, 2, 1, 11, 10, 20, 30);
    }

    private static void chain() {
        Says.promise(11, "A PLAN: its PAPER.");
        LinesPromised x = towns(0, 2);
        Check.row(x, 0, 0, 0, 1, 2);
        for (int i = 1; i < 60; i++) Check.due("plan", x.chain(0, 0, 1), i);
        Says.promise(11, "NONE: no SCHEME, sheets; -11: the row of CELLS is missing; -13: it is of another sort; FULL.");
        Check.due("full", x.chain(0, 0, 1), -4);
        Check.due("sort ahead of full", x.sheet(2, 1, 3), 1);
        Check.due("sort ahead of full", x.chain(0, 2, 1), -13);
        Check.due("missing ahead of full", x.chain(0, 3, 1), -11);
        Check.due("a plan is no scheme, ahead of missing", x.chain(1, 3, 1), -1);
        Check.due("papers", x.count(1), 60);
        Check.range("scheme", SaysPlans::ready, (y, n) -> y.chain(n, 0, 1), 0, 0, -1);
        Check.range("cells", SaysPlans::ready, (y, n) -> y.chain(0, n, 3), 0, 3, -1);
        Check.range("rises", SaysPlans::ready, (y, n) -> y.chain(0, 0, n), 0, 3, -1);
        LinesPromised y = ready();
        y.sheet(0, 2, 3);
        Check.due("ints", y.chain(0, 0, 1), -13);
        y.sheet(0, -1, 3);
        Check.due("missing", y.chain(0, 0, 1), -11);
        Check.due("no sheet ahead of missing", y.chain(0, 0, 4), -1);
        Check.due("refused ones are none", y.count(1), 1);
        Says.promise(11, "(The row of RISES may be missing; if it is none of ints, it is taken as missing.)");
        for (int sort = -1; sort < 3; sort++) {
            LinesPromised z = ready();
            z.sheet(1, sort, 3);
            Check.due("plan", z.chain(0, 0, 1), 1);
            Check.due("level 0", z.level(1, 0), 0);
            Check.due("level 1 by a row of sort " + sort, z.level(1, 1), sort == 2 ? 0 : -1000000);
        }
        LinesPromised z = ready();
        Check.due("its own row of bytes", z.chain(0, 0, 0), 1);
        Check.due("is taken as missing", z.level(1, 1), -1000000);
    }

    private static LinesPromised ready() {
        LinesPromised x = towns(0, 2);
        for (int sheet = 0; sheet < 4; sheet++) Check.row(x, sheet, 0, 0, 1, 2);
        return x;
    }

    private static LinesPromised planned() {
        LinesPromised x = towns(0, 2);
        Check.due("plan", Check.plan(x, 0, 0, 1, 2), 1);
        return x;
    }

    private static void way() {
        Says.promise(12, "Of a PLAN what 0 how many CELLS, 1 where it is TORN (-5: it isn't), 2 YARDS of its CELLS, 10 and i: CELL i.");
        LinesPromised x = planned();
        Check.plan(x, 0);
        Check.plan(x, 0, 0);
        int[][] due = {{3, -5, 20}, {0, 0, 0}, {1, 1, 0}};
        for (int plan = 1; plan < 4; plan++) {
            for (int what = 0; what < 3; what++) Check.due("plan " + plan + " what " + what, x.way(plan, what), due[plan - 1][what]);
        }
        Says.promise(12, "NONE.");
        Check.range("what", SaysPlans::planned, (y, n) -> y.way(1, n), 0, 2, -1);
        Check.range("cell", SaysPlans::planned, (y, n) -> y.way(1, n), 10, 12, -1);
        Check.range("plan", SaysPlans::planned, (y, n) -> y.way(n, 0), 1, 1, -1);
        for (int what = 3; what < 10; what++) Check.due("what " + what, x.way(1, what), -1);
        Check.due("no cell of none", x.way(2, 10), -1);
        Check.due("no second cell of one", x.way(3, 11), -1);
        LinesPromised y = Check.fourBills();
        for (int paper : new int[] {0, 3, 8, 11, 12}) Check.due("no plan " + paper, y.way(paper, 0), -1);
    }

    private static void level() {
        Says.promise(13, "LEVEL of the i-th CELL of a PLAN.");
        LinesPromised x = towns(0, 2);
        made(x, new int[] {0, 1, 2}, 5, -7);
        int[] due = {0, 5, -2};
        for (int i = 0; i < 3; i++) Check.due("level " + i, x.level(1, i), due[i]);
        Says.promise(13, "NONE; -1000000: it is MISSING.");
        Check.range("cell", SaysPlans::planned, (y, n) -> y.level(1, n), 0, 2, -1);
        Check.range("plan", SaysPlans::planned, (y, n) -> y.level(n, 0), 1, 1, -1);
        made(x, new int[] {0, 1, 2});
        Check.due("missing", x.level(2, 1), -1000000);
        Check.due("missing", x.level(2, 2), -1000000);
        Check.due("none, not missing", x.level(2, 3), -1);
        made(x, new int[] {0, 9}, 1);
        Check.due("a torn one has none there", x.level(3, 1), -1);
    }

    private static void closeCall() {
        Says.promise(14, "Where a PLAN isn't CLOSE (what 0), is STEEP (1) on a DAY, by its CELLS; -5: nowhere.");
        LinesPromised x = towns(40, 42);
        Check.order(x, "slope 4", 7, 0);
        made(x, new int[] {40, 41, 42}, 0, 0);
        Check.due("nowhere", x.close(1, 0, 0), -5);
        Check.due("nowhere", x.close(1, 1, 7), -5);
        x.land(42, 0, 5);
        Check.due("not close in its cell 2", x.close(1, 0, 0), 2);
        Check.due("steep in its cell 2", x.close(1, 1, 7), 2);
        Check.due("not on that day", x.close(1, 1, 6), -5);
        Says.promise(14, "NONE; BAD.");
        Check.range("what", SaysPlans::planned, (y, n) -> y.close(1, n, 0), 0, 1, -1);
        Check.range("plan", SaysPlans::planned, (y, n) -> y.close(n, 0, 0), 1, 1, -1);
        Check.due("what ahead of day", x.close(1, 2, 1000), -1);
        Check.due("plan ahead of day", x.close(0, 0, -1), -1);
        Check.due("day", x.close(1, 1, 1000), -2);
    }

    private static void quarrel() {
        Says.promise(15, "QUARREL: the CELL (of THE LAND); -5: there is none.");
        LinesPromised x = towns(40, 42);
        made(x, new int[] {40, 41, 42}, 0, 0);
        made(x, new int[] {40, 41, 42}, 0, 1);
        made(x, new int[] {40, 41, 42}, 0, 0);
        Check.due("the cell", x.quarrel(1, 2), 42);
        Check.due("none", x.quarrel(1, 3), -5);
        Says.promise(15, "NONE; BAD: one PLAN.");
        Check.due("one plan", x.quarrel(2, 2), -2);
        Check.due("no plan, ahead of one", x.quarrel(0, 0), -1);
        Check.due("no plan, ahead of one", x.quarrel(-1, -1), -1);
        Check.due("no second", x.quarrel(1, 4), -1);
        Check.due("no first", x.quarrel(0, 1), -1);
        for (int plan : new int[] {Integer.MIN_VALUE, -1, 4, Integer.MAX_VALUE}) {
            Check.due("no first " + plan, x.quarrel(plan, 1), -1);
            Check.due("no second " + plan, x.quarrel(1, plan), -1);
        }
    }

    private static void slope() {
        Says.promise(16, "THE LEAST WAY: YARDS (what 0), how many CELLS (1), 10 and i: CELL i; -5: there is none.");
        LinesPromised x = towns(0, 2);
        Check.due("yards", x.slope(0, 1, 0, 0), 20);
        Check.due("cells", x.slope(0, 1, 0, 1), 3);
        for (int i = 0; i < 3; i++) Check.due("cell " + i, x.slope(0, 1, 0, 10 + i), i);
        x.land(0, 0, 9);
        Check.order(x, "slope 8", 1, 0);
        for (int what : new int[] {0, 1, 10, 12}) Check.due("none", x.slope(0, 1, 1, what), -5);
        Says.promise(16, "NONE; BAD: one TOWN, day.");
        Check.range("first", Check::fourTowns, (y, n) -> y.slope(n, n == 3 ? 0 : 3, 0, 0), 0, 3, -1);
        Check.range("second", Check::fourTowns, (y, n) -> y.slope(n == 3 ? 0 : 3, n, 0, 0), 0, 3, -1);
        Check.range("what", Check::fourTowns, (y, n) -> y.slope(0, 1, 0, n), 0, 1, -1);
        Check.range("cell", Check::fourTowns, (y, n) -> y.slope(0, 1, 0, n), 10, 13, -1);
        for (int what = 2; what < 10; what++) Check.due("what " + what, x.slope(0, 1, 0, what), -1);
        Check.due("one town", x.slope(1, 1, 0, 0), -2);
        Check.due("no town, ahead of one", x.slope(2, 2, 0, 0), -1);
        Check.due("what ahead of one town", x.slope(1, 1, 0, 2), -1);
        Check.due("what ahead of day", x.slope(0, 1, 1000, -1), -1);
        Check.due("day ahead of no way", x.slope(0, 1, 1000, 0), -2);
        Check.due("day", x.slope(0, 1, -1, 0), -2);
    }
}
