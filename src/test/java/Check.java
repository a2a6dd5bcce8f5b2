import java.nio.charset.StandardCharsets;

/** What the tests share: a count of wrong answers, and runs of calls that often come together. */
final class Check {
    private static int wrong;
    private static int asked;

    private Check() {
    }

    static void due(String what, long got, long want) {
        asked++;
        if (got == want) return;
        wrong++;
        if (wrong <= 50) System.out.println(what + " answered " + got + ", due is " + want);
    }

    static void holds(String what, boolean is) {
        due(what, is ? 1 : 0, 1);
    }

    /** Ends a test: with exit code 1 if an answer was wrong. */
    static void end() {
        System.out.println(wrong + " of " + asked + " answers are not as due");
        if (wrong != 0 || asked == 0) System.exit(1);
    }

    /** Feeds a text, eight bytes a call. */
    static void tape(LinesPromised x, String text) {
        byte[] bytes = text.getBytes(StandardCharsets.ISO_8859_1);
        for (int at = 0; at < bytes.length; at += 8) {
            int n = Math.min(8, bytes.length - at);
            long w = 0;
            for (int i = 0; i < n; i++) w = w << 8 | (bytes[at + i] & 255);
            due("feed of " + text, x.feed(w, n), at + n);
        }
    }

    static void order(LinesPromised x, String text, int day, int number) {
        tape(x, text);
        due("text " + text, x.text(day), number);
    }

    static void row(LinesPromised x, int sheet, int sort, int... items) {
        due("sheet", x.sheet(sheet, sort, items.length), 1);
        for (int i = 0; i < items.length; i++) due("item", x.item(sheet, i, items[i]), 1);
    }

    /** A plan with the older survey's levels all along. */
    static int plan(LinesPromised x, int scheme, int... cells) {
        row(x, 2, 0, cells);
        int[] rises = new int[cells.length];
        java.util.Arrays.fill(rises, 1000000);
        row(x, 3, 2, rises);
        return x.chain(scheme, 2, 3);
    }

    /** Towns 0, 1, 2, 3 in cells 0, 3, 23, 20 with trade 10, 20, 30, 40. */
    static LinesPromised fourTowns() {
        LinesPromised x = new LinesPromised();
        int[] cells = {0, 3, 23, 20};
        for (int i = 0; i < 4; i++) due("town", x.town(cells[i], 10 * i + 10), i);
        return x;
    }

    /** The same with schemes 0 (towns 0, 1, gauge 0), 1 (1, 2, gauge 1), 2 (2, 3, gauge 0), 3 (3, 0, gauge 1). */
    static LinesPromised fourSchemes() {
        LinesPromised x = fourTowns();
        for (int i = 0; i < 4; i++) due("scheme", x.scheme(i, (i + 1) % 4, i % 2, 20 + i), i);
        return x;
    }

    /** The same with plans 4 .. 7 and bills 8 .. 11 straight along each of the schemes: 30, 20, 30, 20 yards. */
    static LinesPromised fourBills() {
        LinesPromised x = fourSchemes();
        due("plan", plan(x, 0, 0, 1, 2, 3), 4);
        due("plan", plan(x, 1, 3, 13, 23), 5);
        due("plan", plan(x, 2, 23, 22, 21, 20), 6);
        due("plan", plan(x, 3, 20, 10, 0), 7);
        for (int i = 0; i < 4; i++) due("bill", x.bill(4 + i), 8 + i);
        return x;
    }
}
