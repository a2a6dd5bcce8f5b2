import java.nio.charset.StandardCharsets;
import java.util.function.Supplier;

/** What the tests share: a count of wrong answers, and runs of calls that often come together. */
final class Check {
    private static int wrong;
    private static int asked;
    private static String under = "";

    // a call that doesn't end must fail its test, not hold it up for good
    static {
        Thread watch = new Thread(() -> {
            try {
                Thread.sleep(300_000);
            } catch (InterruptedException e) {
                return;
            }
            System.out.println(under + "it did not end");
            Runtime.getRuntime().halt(1);
        });
        watch.setDaemon(true);
        watch.start();
    }

    /** A call with one number that is looked at. */
    interface Asked {
        int of(LinesPromised x, int n);
    }

    private Check() {
    }

    /** Tells ahead of each wrong answer from now on what it is a test of. */
    static void under(String what) {
        under = what + ": ";
    }

    static void due(String what, long got, long want) {
        asked++;
        if (got == want) return;
        wrong++;
        if (wrong <= 50) System.out.println(under + what + " answered " + got + ", due is " + want);
    }

    static void holds(String what, boolean is) {
        due(what, is ? 1 : 0, 1);
    }

    /** A number is taken from least to most and refused just below, just above and far off, each on an object of its own. */
    static void range(String what, Supplier<LinesPromised> made, Asked call, int least, int most, int refusal) {
        for (int n : new int[] {least, most}) {
            int got = call.of(made.get(), n);
            holds(what + " " + n + " is taken (" + got + ")", got >= 0 || got == -5);
        }
        for (int n : new int[] {Integer.MIN_VALUE, least - 1, most + 1, Integer.MAX_VALUE}) {
            due(what + " " + n, call.of(made.get(), n), refusal);
        }
    }

    /** The fault of a text, which text and tried must both tell; the tape is empty then. */
    static void fault(String text, int at) {
        LinesPromised x = new LinesPromised();
        tape(x, text);
        due("the fault of " + text, x.text(0), -10 - at);
        due("the tape is empty", x.count(4), 0);
        due("no order", x.count(2), 0);
        tape(x, text);
        due("the fault of " + text, x.tried(0), -10 - at);
        due("the tape is empty", x.count(4), 0);
    }

    /** Ends a test: with exit code 1 if an answer was wrong. */
    static void end() {
        System.out.println(wrong + " of " + asked + " answers are not as due");
        if (wrong != 0 || asked == 0) System.exit(1);
    }

    /** Feeds a text to an empty tape, eight bytes a call. */
    static void tape(LinesPromised x, String text) {
        tape(x, text, 0);
    }

    /** The same behind so many bytes that are there. */
    static void tape(LinesPromised x, String text, int there) {
        byte[] bytes = text.getBytes(StandardCharsets.ISO_8859_1);
        for (int at = 0; at < bytes.length; at += 8) {
            int n = Math.min(8, bytes.length - at);
            long w = 0;
            for (int i = 0; i < n; i++) w = w << 8 | (bytes[at + i] & 255);
            due("feed of " + text, x.feed(w, n), there + at + n);
        }
    }

    static void order(LinesPromised x, String text, int day, int number) {
        tape(x, text);
        due("text " + text, x.text(day), number);
    }

    static void row(LinesPromised x, int sheet, int sort, int... items) {
        due("sheet", x.sheet(sheet, sort, items.length), 1);
        for (int i = 0; i < items.length; i++) due("item", x.item(sheet, i, items[i]), 1);
    }

    /** A plan with the older survey's levels all along. */
    static int plan(LinesPromised x, int scheme, int... cells) {
        row(x, 2, 0, cells);
        int[] rises = new int[cells.length];
        java.util.Arrays.fill(rises, 1000000);
        row(x, 3, 2, rises);
        return x.chain(scheme, 2, 3);
    }

    /** Towns 0, 1, 2, 3 in cells 0, 3, 23, 20 with trade 10, 20, 30, 40. */
    static LinesPromised fourTowns() {
        LinesPromised x = new LinesPromised();
        int[] cells = {0, 3, 23, 20};
        for (int i = 0; i < 4; i++) due("town", x.town(cells[i], 10 * i + 10), i);
        return x;
    }

    /** The same with schemes 0 (towns 0, 1, gauge 0), 1 (1, 2, gauge 1), 2 (2, 3, gauge 0), 3 (3, 0, gauge 1). */
    static LinesPromised fourSchemes() {
        LinesPromised x = fourTowns();
        for (int i = 0; i < 4; i++) due("scheme", x.scheme(i, (i + 1) % 4, i % 2, 20 + i), i);
        return x;
    }

    /** The same with plans 4 .. 7 and bills 8 .. 11 straight along each of the schemes: 30, 20, 30, 20 yards. */
    static LinesPromised fourBills() {
        LinesPromised x = fourSchemes();
        due("plan", plan(x, 0, 0, 1, 2, 3), 4);
        due("plan", plan(x, 1, 3, 13, 23), 5);
        due("plan", plan(x, 2, 23, 22, 21, 20), 6);
        due("plan", plan(x, 3, 20, 10, 0), 7);
        for (int i = 0; i < 4; i++) due("bill", x.bill(4 + i), 8 + i);
        return x;
    }
}
