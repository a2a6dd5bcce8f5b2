/** The sentences of votes and jobs in term 5 and of promises 24 to 27, each with a test of its own. */
final class SaysVotes {
    private SaysVotes() {
    }

    static void all() {
        asManyAsTold();
        bothWays();
        jobs();
        oneOrder();
        byTheStroke();
        theirOrder();
        board();
        doubled();
        hand();
        midnight();
    }

    private static LinesPromised jobs(int... hours) {
        LinesPromised x = new LinesPromised();
        for (int i = 0; i < hours.length; i += 2) Check.due("job", x.hand(hours[i], hours[i + 1]), i / 2 + 1);
        return x;
    }

    private static void order(LinesPromised x, int hour, int... row) {
        Check.due("how many by " + hour, x.midnight(hour, -1), row.length);
        for (int i = 0; i < row.length; i++) Check.due("place " + i + " by " + hour, x.midnight(hour, i), row[i]);
        Check.due("none behind them by " + hour, x.midnight(hour, row.length), -1);
    }

    private static void asManyAsTold() {
        Says.term(5, "VOTES of a HOLDER for or against a BILL, as many as told.");
        LinesPromised x = Check.fourBills();
        for (int i = 1; i <= 60; i++) Check.due("the same again", x.board(7, 11, true), i);
        Check.due("one more", x.board(7, 11, true), -4);
        Check.due("sixty", x.count(10), 60);
    }

    private static void bothWays() {
        Says.term(5, "DOUBLE: HOLDERS that voted both ways on some BILL.");
        LinesPromised x = Check.fourBills();
        Check.due("nobody", x.doubled(), 0);
        x.board(0, 8, true);
        x.board(0, 9, false);
        Check.due("on two bills", x.doubled(), 0);
        x.board(1, 8, false);
        Check.due("two holders", x.doubled(), 0);
        x.board(1, 8, false);
        Check.due("one way again", x.doubled(), 0);
        x.board(1, 8, true);
        Check.due("against, then for", x.doubled(), 2);
        x.board(0, 9, true);
        Check.due("on one of two", x.doubled(), 3);
        x.board(1, 8, true);
        Check.due("it stays so", x.doubled(), 3);
    }

    private static void jobs() {
        Says.term(5, "JOBS, 7 at most: so many hours (1 .. 30) of survey, then so many (1 .. 30) of press.");
        Check.range("survey", LinesPromised::new, (x, n) -> x.hand(n, 1), 1, 30, -2);
        Check.range("press", LinesPromised::new, (x, n) -> x.hand(1, n), 1, 30, -2);
        LinesPromised x = jobs(1, 1);
        order(x, 1);
        order(x, 2, 0);
        LinesPromised y = jobs(30, 30);
        order(y, 59);
        order(y, 60, 0);
        LinesPromised z = jobs(1, 30, 1, 30, 1, 30, 1, 30, 1, 30, 1, 30, 1, 30);
        Check.due("an eighth", z.hand(1, 1), -4);
        order(z, 210, 0, 1, 2, 3, 4, 5);
        order(z, 211, 0, 1, 2, 3, 4, 5, 6);
    }

    private static void oneOrder() {
        Says.term(5, "One surveyor, one press, each one JOB at a time, in one order for both.");
        order(jobs(3, 1, 3, 1), 7, 0, 1);
        order(jobs(3, 1, 3, 1), 6, 0);
        order(jobs(1, 3, 1, 3), 7, 0, 1);
        order(jobs(1, 3, 1, 3), 6, 0);
        order(jobs(1, 5, 5, 1), 7, 0, 1);
        order(jobs(1, 5, 5, 1), 6, 0);
        order(jobs(5, 1, 1, 5), 7, 1, 0);
        order(jobs(5, 1, 1, 5), 11, 0, 1);
        order(jobs(5, 1, 1, 5), 10, 1, 0);
    }

    private static void byTheStroke() {
        Says.term(5, "BY THE STROKE of hour h: the most JOBS that can all be printed by it in some order (others aren't begun);");
        LinesPromised x = jobs(9, 9, 1, 1, 9, 9, 2, 2);
        order(x, 1);
        order(x, 2, 1);
        order(x, 4, 1);
        order(x, 5, 1, 3);
        order(x, 18, 1, 3);
        order(x, 19, 0, 1);
        order(x, 20, 0, 1);
        order(x, 21, 0, 1, 3);
        order(x, 27, 0, 1, 3);
        order(x, 28, 0, 1, 2);
        order(x, 29, 0, 1, 2);
        order(x, 30, 0, 1, 2, 3);
        order(x, 999, 0, 1, 2, 3);
        LinesPromised one = jobs(2, 3);
        order(one, 4);
        order(one, 5, 0);
    }

    private static void theirOrder() {
        Says.term(5, "THEIR ORDER: of such orders of so many the least as a row.");
        order(jobs(2, 2, 2, 2, 2, 2), 8, 0, 1, 2);
        order(jobs(9, 1, 1, 1, 1, 1), 5, 1, 2);
        order(jobs(9, 1, 1, 1, 1, 1), 10, 1, 2);
        order(jobs(9, 1, 1, 1, 1, 1), 11, 0, 1);
        order(jobs(9, 1, 1, 1, 1, 1), 12, 0, 1, 2);
        order(jobs(4, 2, 3, 3, 2, 4), 5);
        order(jobs(4, 2, 3, 3, 2, 4), 6, 0);
        order(jobs(4, 2, 3, 3, 2, 4), 10, 0, 1);
        order(jobs(4, 2, 3, 3, 2, 4), 11, 2, 1, 0);
        order(jobs(4, 2, 3, 3, 2, 4), 12, 1, 2, 0);
        order(jobs(4, 2, 3, 3, 2, 4), 13, 0, 2, 1);
        order(jobs(4, 2, 3, 3, 2, 4), 14, 0, 1, 2);
        int[][] heavy = {{1, 9, 2, 8, 9, 1, 8, 2}, {1, 7, 3, 1, 1, 6, 5, 1, 2, 2}, {4, 1, 1, 4, 2, 6, 6, 2, 3, 3}, {9, 1, 8, 2, 1, 9}};
        for (int[] hours : heavy) {
            for (int hour = 1; hour < 40; hour++) order(jobs(hours), hour, VotesJobsTest.best(hours, hour));
        }
    }

    private static void board() {
        Says.promise(24, "A VOTE: how many there are.");
        LinesPromised x = Check.fourBills();
        Check.due("the first", x.board(0, 8, true), 1);
        Check.due("of another", x.board(7, 11, false), 2);
        Check.due("the same", x.board(7, 11, false), 3);
        Says.promise(24, "NONE: holder, no BILL; FULL: 60.");
        for (int paper : new int[] {Integer.MIN_VALUE, -1, 0, 4, 7, 12, Integer.MAX_VALUE}) {
            Check.due("no bill " + paper, x.board(0, paper, true), -1);
        }
        for (int i = 4; i <= 60; i++) x.board(1, 9, true);
        Check.due("full", x.board(1, 9, false), -4);
        Check.due("it is no vote", x.doubled(), 0);
        Check.due("no holder, ahead of full", x.board(8, 8, true), -1);
        Check.due("no bill, ahead of full", x.board(0, 0, true), -1);
    }

    private static void doubled() {
        Says.promise(25, "DOUBLE: HOLDERS as bits.");
        for (int bits = 0; bits < 256; bits++) {
            LinesPromised x = Check.fourBills();
            for (int holder = 0; holder < 8; holder++) {
                x.board(holder, 8 + holder % 4, true);
                x.board(holder, (bits >> holder & 1) != 0 ? 8 + holder % 4 : 8 + (holder + 1) % 4, false);
            }
            Check.due("bits", x.doubled(), bits);
        }
        Check.due("none", new LinesPromised().doubled(), 0);
    }

    private static void hand() {
        Says.promise(26, "A JOB: how many there are.");
        LinesPromised x = new LinesPromised();
        for (int i = 1; i <= 7; i++) Check.due("job", x.hand(i, i), i);
        Says.promise(26, "BAD; FULL.");
        Check.due("full", x.hand(1, 1), -4);
        Check.due("bad ahead of full", x.hand(0, 1), -2);
        Check.due("bad ahead of full", x.hand(1, 31), -2);
        Check.due("seven", x.count(8), 7);
    }

    private static void midnight() {
        Says.promise(27, "BY THE STROKE of hour h (1 .. 999): how many (i -1), the i-th of THEIR ORDER.");
        Check.range("hour", () -> jobs(3, 4), (x, n) -> x.midnight(n, -1), 1, 999, -2);
        order(new LinesPromised(), 1);
        order(new LinesPromised(), 999);
        order(jobs(5, 1, 1, 5), 7, 1, 0);
        Says.promise(27, "BAD: h; NONE: none such (below -1 ahead of all).");
        LinesPromised x = jobs(3, 4);
        Check.due("hour ahead of none such", x.midnight(0, 7), -2);
        Check.due("hour ahead of none such", x.midnight(1000, 0), -2);
        Check.due("below -1, ahead of the hour", x.midnight(0, -2), -1);
        Check.due("below -1", x.midnight(1000, Integer.MIN_VALUE), -1);
        Check.due("below -1", x.midnight(7, -2), -1);
        Check.due("none such", x.midnight(7, 1), -1);
        Check.due("none such", x.midnight(6, 0), -1);
        Check.due("none such", x.midnight(7, Integer.MAX_VALUE), -1);
        Check.due("one of seven jobs", jobs(1, 1, 1, 1, 1, 1, 1, 1, 1, 1, 1, 1, 1, 1).midnight(999, 6), 6);
        Check.due("none such", jobs(1, 1, 1, 1, 1, 1, 1, 1, 1, 1, 1, 1, 1, 1).midnight(999, 7), -1);
    }
}
