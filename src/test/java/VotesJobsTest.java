/** Promises 24 to 27: board, doubled, hand, midnight. */
public final class VotesJobsTest {
    public static void main(String[] args) {
        votes();
        jobs();
        midnight();
        leastOrders();
        Check.end();
    }

    private static void votes() {
        LinesPromised x = Check.fourBills();
        Check.due("no holder", x.board(8, 8, true), -1);
        Check.due("no holder", x.board(-1, 8, true), -1);
        Check.due("no bill", x.board(0, 7, true), -1);
        Check.due("vote", x.board(0, 8, true), 1);
        Check.due("vote again", x.board(0, 8, true), 2);
        Check.due("vote", x.board(0, 9, false), 3);
        Check.due("none both ways", x.doubled(), 0);
        Check.due("vote", x.board(1, 8, false), 4);
        Check.due("ways of two holders", x.doubled(), 0);
        Check.due("vote", x.board(0, 9, true), 5);
        Check.due("both ways", x.doubled(), 1);
        for (int holder = 2; holder < 8; holder++) {
            x.board(holder, 11, holder % 2 == 0);
            x.board(holder, holder == 5 ? 10 : 11, holder % 2 != 0);
        }
        Check.due("both ways", x.doubled(), 1 + 4 + 8 + 16 + 64 + 128);
        for (int i = 18; i <= 60; i++) Check.due("vote", x.board(1, 8, false), i);
        Check.due("full", x.board(1, 8, true), -4);
        Check.due("none ahead of full", x.board(8, 8, true), -1);
        Check.due("refused votes do not count", x.doubled() & 2, 0);
        Check.due("count", x.count(10), 60);
    }

    private static void jobs() {
        LinesPromised x = new LinesPromised();
        Check.due("survey", x.hand(0, 1), -2);
        Check.due("survey", x.hand(31, 1), -2);
        Check.due("press", x.hand(1, 0), -2);
        Check.due("press", x.hand(1, 31), -2);
        for (int i = 1; i <= 7; i++) Check.due("job", x.hand(30, 30), i);
        Check.due("bad ahead of full", x.hand(0, 1), -2);
        Check.due("full", x.hand(1, 1), -4);
        Check.due("count", x.count(8), 7);
        Check.due("seven", x.midnight(240, -1), 7);
        Check.due("six", x.midnight(239, -1), 6);
    }

    private static void midnight() {
        LinesPromised x = new LinesPromised();
        Check.due("no jobs", x.midnight(1, -1), 0);
        Check.due("no jobs", x.midnight(1, 0), -1);
        Check.due("below all", x.midnight(0, -2), -1);
        Check.due("hour", x.midnight(0, -1), -2);
        Check.due("hour ahead of none such", x.midnight(1000, 7), -2);
        x.hand(3, 9);
        x.hand(5, 2);
        x.hand(1, 6);
        Check.due("too early", x.midnight(6, -1), 0);
        Check.due("one by 7", x.midnight(7, -1), 1);
        Check.due("the less of two", x.midnight(7, 0), 1);
        Check.due("by 7 also", x.midnight(7, 1), -1);
        Check.due("two by 11", x.midnight(11, -1), 2);
        Check.due("these", x.midnight(11, 0), 2);
        Check.due("these", x.midnight(11, 1), 1);
        Check.due("two by 17", x.midnight(17, -1), 2);
        Check.due("the least of them", x.midnight(17, 0), 0);
        Check.due("the least of them", x.midnight(17, 1), 1);
        Check.due("three by 18", x.midnight(18, -1), 3);
        int[] row = {2, 0, 1};
        for (int i = 0; i < 3; i++) Check.due("in the only order", x.midnight(18, i), row[i]);
        Check.due("none such", x.midnight(18, 3), -1);
        Check.due("none such", x.midnight(18, Integer.MAX_VALUE), -1);
        for (int i = 0; i < 3; i++) Check.due("in the least order", x.midnight(999, i), i);
    }

    /** Of likely jobs, all orders tried. */
    private static void leastOrders() {
        int seed = 1;
        for (int run = 0; run < 30; run++) {
            LinesPromised x = new LinesPromised();
            int n = run % 8;
            int[] jobs = new int[2 * n];
            for (int i = 0; i < n; i++) {
                seed = seed * 1103515245 + 12345;
                jobs[2 * i] = 1 + (seed >>> 16) % 9;
                jobs[2 * i + 1] = 1 + (seed >>> 20) % 9;
                x.hand(jobs[2 * i], jobs[2 * i + 1]);
            }
            for (int h = 1; h < 70; h += 4) {
                int[] best = best(jobs, h);
                Check.due("how many", x.midnight(h, -1), best.length);
                for (int i = 0; i < best.length; i++) Check.due("the order", x.midnight(h, i), best[i]);
            }
        }
    }

    /** The least of the longest orders of jobs (hours of survey and of press by turns) that are all printed by an hour. */
    static int[] best(int[] jobs, int h) {
        return best(jobs, h, new int[0], 0, 0, 0);
    }

    private static int[] best(int[] jobs, int h, int[] row, int begun, int a, int b) {
        int[] best = row;
        for (int j = 0; j < jobs.length / 2; j++) {
            int printed = Math.max(a + jobs[2 * j], b) + jobs[2 * j + 1];
            if ((begun >> j & 1) != 0 || printed > h) continue;
            int[] more = java.util.Arrays.copyOf(row, row.length + 1);
            more[row.length] = j;
            int[] found = best(jobs, h, more, begun | 1 << j, a + jobs[2 * j], printed);
            if (found.length > best.length) best = found;
        }
        return best;
    }
}
