/** Promises 10 to 23: schemes, plans, the least way, claims, bills, and what papers are. */
public final class PapersTest {
    public static void main(String[] args) {
        schemes();
        chains();
        tears();
        levels();
        closeAndSteep();
        quarrels();
        leastWay();
        leastWayRefusals();
        claims();
        bills();
        hear();
        barAndGrant();
        cast();
        about();
        full();
        Check.end();
    }

    private static void schemes() {
        LinesPromised x = Check.fourTowns();
        Check.due("no town", x.scheme(4, 0, 0, 1), -1);
        Check.due("no town", x.scheme(0, -1, 9, 1), -1);
        Check.due("one town", x.scheme(1, 1, 0, 1), -2);
        Check.due("gauge", x.scheme(0, 1, 2, 1), -2);
        Check.due("gauge", x.scheme(0, 1, -1, 1), -2);
        Check.due("shares", x.scheme(0, 1, 0, 0), -2);
        Check.due("shares", x.scheme(0, 1, 0, 100), -2);
        for (int i = 0; i < 12; i++) Check.due("scheme", x.scheme(1, 0, 1, 99), i);
        Check.due("bad ahead of full", x.scheme(0, 0, 0, 1), -2);
        Check.due("full of schemes", x.scheme(0, 1, 0, 1), -4);
        Check.due("papers", x.count(1), 12);
        Check.due("a claim still goes", x.claim(0, 1), 12);
    }

    private static void chains() {
        LinesPromised x = Check.fourSchemes();
        Check.row(x, 0, 0, 0, 1, 2, 3, 4);
        Check.row(x, 1, 2, 1, 2);
        Check.row(x, 2, 1, 0, 1, 2, 3);
        Check.due("no scheme", x.chain(4, 0, 1), -1);
        Check.due("no sheet", x.chain(0, 4, 1), -1);
        Check.due("no sheet", x.chain(0, 0, -1), -1);
        Check.due("no sheet ahead of missing", x.chain(0, 3, 4), -1);
        Check.due("missing cells", x.chain(0, 3, 1), -11);
        Check.due("cells of ints", x.chain(0, 1, 0), -13);
        Check.due("cells of shorts", x.chain(0, 2, 1), -13);
        Check.due("plan", x.chain(0, 0, 1), 4);
        Check.due("what is behind the second town is none of it", x.way(4, 0), 4);
        Check.due("it isn't torn", x.way(4, 1), -5);
        Check.due("a plan is no scheme", x.chain(4, 0, 1), -1);
        Check.due("rises of bytes", x.chain(0, 0, 0), 5);
        Check.due("they are missing", x.level(5, 1), -1000000);
        Check.due("missing rises", x.chain(0, 0, 3), 6);
        Check.due("level 0 is there", x.level(6, 0), 0);
        Check.due("a plan goes on as it was", x.sheet(0, -1, 0), 1);
        for (int i = 0; i < 4; i++) Check.due("cell", x.way(4, 10 + i), i);
        Check.due("no cell", x.way(4, 14), -1);
        Check.due("no what", x.way(4, 3), -1);
        Check.due("no what", x.way(4, 9), -1);
        Check.due("no what", x.way(4, -1), -1);
        Check.due("no what", x.way(4, Integer.MIN_VALUE), -1);
        Check.due("no cell", x.way(4, Integer.MAX_VALUE), -1);
        Check.due("no plan", x.way(0, 0), -1);
        Check.due("yards", x.way(4, 2), 30);
        x.land(1, 0, 4);
        x.land(2, 1, 1);
        x.land(3, 1, 2);
        Check.due("yards as now", x.way(4, 2), 22 + 42 + 15);
    }

    private static void torn(LinesPromised x, int at, int... cells) {
        int plan = Check.plan(x, 0, cells);
        Check.due("where " + java.util.Arrays.toString(cells) + " is torn", x.way(plan, 1), at);
        Check.due("its cells", x.way(plan, 0), at == -5 ? cells.length : at);
    }

    private static void tears() {
        LinesPromised x = Check.fourSchemes();
        torn(x, -5, 0, 1, 2, 3);
        torn(x, -5, 0, 10, 11, 12, 13, 3);
        torn(x, 0);
        torn(x, 0, 1, 2, 3);
        torn(x, 0, 3, 2, 1, 0);
        torn(x, 1, 0);
        torn(x, 3, 0, 1, 2);
        torn(x, 2, 0, 1, 1, 2, 3);
        torn(x, 2, 0, 1, 0, 1, 2, 3);
        torn(x, 2, 0, 1, 3);
        torn(x, 1, 0, 11, 12, 13, 3);
        torn(x, 1, 0, -1, 1, 2, 3);
        torn(x, 1, 0, 80);
        torn(x, 9, 0, 10, 20, 30, 40, 50, 60, 70, 71, 81);
        LinesPromised z = new LinesPromised();
        z.town(67, 0);
        z.town(79, 0);
        z.scheme(0, 1, 0, 1);
        torn(z, -5, 67, 68, 69, 79);
        torn(z, -5, 67, 77, 78, 79);
        torn(z, -5, 67, 57, 58, 59, 69, 79);
        z.scheme(1, 0, 0, 1);
        Check.due("back over the edge cells", z.way(Check.plan(z, 4, 79, 78, 68, 67), 1), -5);
        Check.due("the least way to the last cell", z.slope(0, 1, 0, 12), 69);
        LinesPromised y = new LinesPromised();
        y.town(9, 0);
        y.town(10, 0);
        y.scheme(0, 1, 0, 1);
        torn(y, 1, 9, 10);
        y.scheme(1, 0, 0, 1);
        int plan = Check.plan(y, 2, 10, 9);
        Check.due("torn at the edge", y.way(plan, 1), 1);
        Check.due("as a byte", y.sheet(0, 0, 2), 1);
        y.item(0, 0, 9 + 256);
        y.item(0, 1, 19 - 512);
        y.chain(0, 0, 1);
        Check.due("cells as their lowest bits", y.way(4, 11), 19);
    }

    private static void levels() {
        LinesPromised x = Check.fourSchemes();
        x.land(0, 0, 7);
        x.land(1, 0, 9);
        Check.row(x, 0, 0, 0, 1, 2, 3);
        Check.row(x, 1, 2, 1000000, 10001, -2000000);
        x.chain(0, 0, 1);
        Check.due("level 0", x.level(4, 0), 7);
        Check.due("the older survey's", x.level(4, 1), 9);
        Check.due("10000 at most", x.level(4, 2), 10009);
        Check.due("-10000 at most", x.level(4, 3), 9);
        Check.due("no cell", x.level(4, 4), -1);
        Check.due("no cell", x.level(4, -1), -1);
        Check.due("no plan", x.level(3, 0), -1);
        Check.row(x, 1, 2, 1000001, 999999);
        x.chain(0, 0, 1);
        Check.due("more than the mark counts as most", x.level(5, 1), 10007);
        Check.due("less than the mark counts as most", x.level(5, 2), 20007);
        Check.due("the rises have ended", x.level(5, 3), -1000000);
        x.land(0, 0, 50);
        x.land(1, 0, 50);
        Check.due("as the plan was made", x.level(4, 1), 9);
        Check.row(x, 1, 2, -10000, 10000);
        x.chain(0, 0, 1);
        Check.due("levels below", x.level(6, 1), 50 - 10000);
        Check.due("and back", x.level(6, 2), 50);
    }

    private static void closeAndSteep() {
        LinesPromised x = Check.fourSchemes();
        Check.row(x, 0, 0, 0, 1, 2, 3);
        Check.row(x, 1, 2, 2, 1, 0);
        x.chain(0, 0, 1);
        Check.due("close", x.close(4, 0, 0), 2);
        x.land(2, 0, 1);
        x.land(3, 0, 5);
        Check.due("as now", x.close(4, 0, 0), -5);
        x.land(3, 0, 6);
        Check.due("farther than close", x.close(4, 0, 0), 3);
        x.land(0, 0, 3);
        Check.due("the first", x.close(4, 0, 0), 0);
        Check.order(x, "close 3;slope 4", 5, 0);
        Check.due("by the rule of the day", x.close(4, 0, 5), -5);
        Check.due("by the rule of the day", x.close(4, 0, 4), 0);
        Check.due("steep", x.close(4, 1, 5), 3);
        Check.due("not steep", x.close(4, 1, 4), -5);
        x.land(3, 0, 5);
        Check.due("just not steep", x.close(4, 1, 5), -5);
        x.land(1, 0, 6);
        Check.due("down, too", x.close(4, 1, 5), 2);
        x.land(0, 0, 99);
        x.land(1, 0, 0);
        Check.due("the usual slope", x.close(4, 1, 0), -5);
        Check.due("no plan", x.close(3, 0, 0), -1);
        Check.due("no what", x.close(4, 2, 1000), -1);
        Check.due("no what", x.close(4, -1, 0), -1);
        Check.due("day", x.close(4, 0, 1000), -2);
        Check.due("day", x.close(4, 1, -1), -2);
        Check.row(x, 1, 2, 1000000, 1000000);
        x.chain(0, 0, 1);
        Check.due("missing levels are not close", x.close(5, 0, 0), 3);
    }

    private static void quarrels() {
        LinesPromised x = Check.fourSchemes();
        Check.row(x, 0, 0, 0, 1, 2, 3);
        Check.row(x, 1, 2, 1, 1, 1);
        x.chain(0, 0, 1);
        Check.row(x, 1, 2, 1, 2);
        x.chain(0, 0, 1);
        Check.due("quarrel", x.quarrel(4, 5), 2);
        Check.due("quarrel", x.quarrel(5, 4), 2);
        Check.due("missing levels quarrel with none", x.chain(0, 0, 3), 6);
        Check.due("none", x.quarrel(5, 6), -5);
        Check.due("one plan", x.quarrel(5, 5), -2);
        Check.due("no plan", x.quarrel(3, 3), -1);
        Check.due("no plan", x.quarrel(4, 7), -1);
        Check.row(x, 0, 0, 3, 2, 1, 11, 12, 13, 23);
        Check.row(x, 1, 2, 4, -2, 9, 9, 9, 9);
        x.chain(1, 0, 1);
        Check.due("the first of the first one's way", x.quarrel(7, 4), 3);
        Check.due("the first of the first one's way", x.quarrel(4, 7), 1);
    }

    private static void leastWay() {
        LinesPromised x = new LinesPromised();
        x.town(0, 0);
        x.town(22, 0);
        Check.due("yards", x.slope(0, 1, 0, 0), 40);
        Check.due("cells", x.slope(0, 1, 0, 1), 5);
        int[] least = {0, 1, 2, 12, 22};
        for (int i = 0; i < 5; i++) Check.due("the less cells first", x.slope(0, 1, 0, 10 + i), least[i]);
        int[] back = {22, 12, 2, 1, 0};
        for (int i = 0; i < 5; i++) Check.due("the less cells first", x.slope(1, 0, 0, 10 + i), back[i]);
        Check.due("no such cell", x.slope(0, 1, 0, 15), -1);
        x.land(22, 1, 1);
        Check.due("to a river", x.slope(0, 1, 0, 0), 60);
        Check.due("from a river", x.slope(1, 0, 0, 0), 40);
        x.land(2, 1, 2);
        Check.due("round a park", x.slope(0, 1, 0, 12), 11);
        x.land(22, 0, 3);
        Check.due("up", x.slope(0, 1, 0, 0), 69);
        Check.order(x, "slope 2", 7, 0);
        Check.due("too steep", x.slope(0, 1, 7, 0), -5);
        Check.due("too steep", x.slope(0, 1, 7, 10), -5);
        Check.due("too steep", x.slope(0, 1, 7, 1), -5);
        Check.due("another day", x.slope(0, 1, 6, 0), 69);
        x.land(22, 0, 0);
        x.land(22, 1, 2);
        x.land(0, 1, 2);
        Check.order(x, "park n", 8, 1);
        Check.due("towns in parks", x.slope(0, 1, 8, 0), 45);
        x.land(12, 1, 2);
        x.land(21, 1, 2);
        x.land(23, 1, 2);
        Check.due("through a park", x.slope(0, 1, 7, 0), 50);
        Check.due("round by the south", x.slope(0, 1, 8, 0), 65);
        x.town(12, 0);
        Check.due("another town's park stays shut", x.slope(0, 1, 8, 0), 65);
        x.land(32, 1, 2);
        Check.due("shut all round", x.slope(0, 1, 8, 0), -5);
    }

    private static void leastWayRefusals() {
        LinesPromised x = Check.fourTowns();
        Check.due("no town", x.slope(4, 0, 0, 0), -1);
        Check.due("no town", x.slope(0, -1, 0, 0), -1);
        Check.due("no what", x.slope(0, 1, 0, 2), -1);
        Check.due("no what", x.slope(0, 1, 0, 9), -1);
        Check.due("no what", x.slope(1, 1, -1, -1), -1);
        Check.due("one town", x.slope(1, 1, 0, 0), -2);
        Check.due("day", x.slope(0, 1, 1000, 0), -2);
        Check.due("day", x.slope(0, 1, -1, 0), -2);
        Check.due("no cell", x.slope(0, 1, 0, Integer.MAX_VALUE), -1);
    }

    private static void claims() {
        LinesPromised x = new LinesPromised();
        Check.due("claim", x.claim(79, 9999), 0);
        Check.due("no cell", x.claim(80, 0), -1);
        Check.due("no cell", x.claim(-1, 1), -1);
        Check.due("coins", x.claim(0, 0), -2);
        Check.due("coins", x.claim(0, 10000), -2);
        Check.due("claim again", x.claim(79, 1), 1);
        Check.due("a cell", x.about(0, 3), 79);
        Check.due("coins", x.about(0, 6), 9999);
    }

    private static void bills() {
        LinesPromised x = Check.fourSchemes();
        int torn = Check.plan(x, 0, 0, 1, 2);
        int sound = Check.plan(x, 0, 0, 1, 2, 3);
        Check.due("no plan", x.bill(0), -1);
        Check.due("no plan", x.bill(-1), -1);
        Check.due("no plan", x.bill(99), -1);
        Check.due("torn", x.bill(torn), -3);
        x.land(1, 0, 3);
        Check.due("not close", x.bill(sound), -3);
        Check.order(x, "close 3;slope 2", 0, 0);
        Check.due("steep", x.bill(sound), -3);
        Check.order(x, "slope 3;stroke 4", 0, 1);
        x.dig(5);
        Check.due("behind the stroke", x.bill(sound), -3);
        Check.order(x, "stroke 5", 0, 2);
        Check.due("by the stroke", x.bill(sound), 6);
        Check.due("it has one", x.bill(sound), -3);
        Check.due("a bill is no plan", x.bill(6), -1);
        Check.due("the day it came", x.about(6, 2), 5);
    }

    private static void hear() {
        LinesPromised x = Check.fourBills();
        Check.due("without let", x.hear(8, 999), 1);
        Check.order(x, "let y<3", 4, 0);
        Check.due("ahead of it", x.hear(8, 3), 1);
        Check.due("30 yards", x.hear(8, 4), 0);
        Check.due("20 yards", x.hear(9, 4), 1);
        x.land(13, 0, 2);
        Check.due("32 yards, as now", x.hear(9, 4), 0);
        Check.order(x, "let (((((y<3)))))|!!!!!y<3", 5, 1);
        Check.due("five open", x.hear(8, 5), 1);
        Check.order(x, "let (((((y<4)))))&!(!(!y<3))", 6, 2);
        Check.due("five open", x.hear(8, 6), 1);
        Check.due("no bill", x.hear(4, 0), -1);
        Check.due("no bill", x.hear(12, -1), -1);
        Check.due("day", x.hear(8, -1), -2);
        Check.due("day", x.hear(8, 1000), -2);
    }

    private static void barAndGrant() {
        LinesPromised x = Check.fourBills();
        Check.due("no bill", x.bar(8, 4), -1);
        Check.due("no bill", x.bar(4, 8), -1);
        Check.due("one bill", x.bar(8, 8), -2);
        Check.due("bar", x.bar(8, 9), 1);
        Check.due("they did", x.bar(9, 8), 0);
        Check.due("grant", x.grant(9), 1);
        Check.due("granted", x.grant(9), -3);
        Check.due("barred by a granted one", x.grant(8), -3);
        Check.due("bar", x.bar(8, 10), 1);
        Check.due("barred by one that isn't granted", x.grant(10), 2);
        Check.due("no bill", x.grant(7), -1);
        Check.due("no bill", x.grant(12), -1);
        Check.order(x, "let g=0", 1, 0);
        Check.order(x, "let g=1", 0, 1);
        Check.due("no let tomorrow does not matter", x.grant(11), 3);
        Check.due("granted", x.about(11, 7), 1);
        Check.due("not granted", x.about(8, 7), 0);
        LinesPromised y = Check.fourBills();
        Check.order(y, "let g=1", 1, 0);
        y.dig(1);
        Check.due("can't be let", y.grant(8), -3);
        Check.due("can be let", y.grant(9), 1);
        Check.due("count", y.count(6), 1);
    }

    private static void cast() {
        LinesPromised x = Check.fourBills();
        x.claim(5, 30);
        x.coin(0, 100);
        x.call(1, 7);
        x.lend(1, 0, 9);
        // papers: 0 scheme of 20 shares, 4 plan of 4 cells, 8 bill, 12 claim, 13 call, 14 loan
        int[] papers = {0, 4, 8, 12, 13, 14};
        int[] kinds = {1, 2, 3, 6, 4, 5};
        int[] worths = {30, 34, 68, 31, 11, 25};
        int[] above = {0, 1, 1, 0, 0, 4};
        for (int i = 0; i < papers.length; i++) {
            for (int k = 0; k <= 6; k++) {
                boolean is = k == 0 || k == kinds[i] || k == above[i];
                Check.due("paper " + papers[i] + " as " + k, x.cast(papers[i], k), is ? worths[i] : -13);
            }
            Check.due("no kind", x.cast(papers[i], 7), -1);
            Check.due("no kind", x.cast(papers[i], -1), -1);
        }
        Check.due("no paper", x.cast(15, 0), -1);
        Check.due("no paper", x.cast(-1, 0), -1);
    }

    private static void about(LinesPromised x, int paper, int... due) {
        for (int what = 0; what < 8; what++) Check.due("paper " + paper + " what " + what, x.about(paper, what), due[what]);
        Check.due("no what", x.about(paper, 8), -1);
        Check.due("no what", x.about(paper, -1), -1);
    }

    private static void about() {
        LinesPromised x = Check.fourBills();
        x.dig(3);
        x.claim(5, 30);
        x.coin(6, 100);
        x.call(1, 7);
        x.lend(1, 6, 9);
        about(x, 1, 1, -1, 0, 1, 2, 1, 21, 0);
        about(x, 5, 2, 1, 0, 1, 2, 1, -1, 0);
        about(x, 9, 3, 5, 0, 1, 2, 1, -1, 0);
        about(x, 12, 6, -1, 3, 5, -1, -1, 30, 0);
        about(x, 13, 4, 1, 3, -1, -1, -1, 7, 0);
        about(x, 14, 5, 1, 3, 6, -1, -1, 9, 0);
        x.grant(9);
        about(x, 9, 3, 5, 0, 1, 2, 1, -1, 1);
        x.settle();
        about(x, 13, 4, 1, 3, -1, -1, -1, 7, 1);
        about(x, 14, 5, 1, 3, 6, -1, -1, 9, 1);
        about(x, 1, 1, -1, 0, 1, 2, 1, 21, 0);
        x.lend(1, 6, 9);
        x.man(3);
        x.dig(1);
        Check.due("the scheme could not pay", x.settle(), 1 << 9);
        about(x, 1, 1, -1, 0, 1, 2, 1, 21, 1);
        Check.due("no paper", x.about(-1, 0), -1);
        Check.due("no paper", x.about(16, 0), -1);
    }

    private static void full() {
        LinesPromised x = Check.fourBills();
        x.coin(0, 5);
        int plan = Check.plan(x, 0, 0, 1, 2, 3);
        for (int i = 13; i < 60; i++) Check.due("claim", x.claim(0, 1), i);
        Check.due("no claim", x.claim(0, 1), -4);
        Check.due("no scheme", x.scheme(0, 1, 0, 1), -4);
        Check.due("no plan", x.chain(0, 2, 3), -4);
        Check.due("no plan, missing first", x.chain(0, 0, 3), -11);
        Check.due("no bill", x.bill(plan), -4);
        Check.due("no bill, state first", x.bill(4), -3);
        Check.due("no call", x.call(0, 1), -4);
        Check.due("no loan", x.lend(0, 0, 5), -4);
        Check.due("no loan, state first", x.lend(0, 0, 6), -3);
        Check.due("papers", x.count(1), 60);
        Check.order(x, "let c<48", 0, 0);
        Check.due("a refused claim does not count", x.hear(8, 0), 1);
    }
}
