import java.util.Arrays;

/** Lines promised: land, schemes, plans, bills, scrip, digging, and an image of it all. */
public final class LinesPromised {
    public static final int NONE = -1, BAD = -2, STATE = -3, FULL = -4;

    private static final int NOWHERE = -5, TOO_MANY = -9, FAULT = -10;
    private static final int NO_ROW = -11, OUTSIDE = -12, UNLIKE = -13, BELOW = -14;
    private static final int NO_LEVEL = -1000000;

    private static final int CELLS = 80, WIDTH = 10, TOWNS = 6, HOLDERS = 8, LAST_DAY = 999;
    private static final int RIVER = 1, PARK = 2;
    private static final int SHEETS = 4, ROW = 40, GONE = -1, BYTES = 0, SHORTS = 1, INTS = 2;
    private static final int PAPERS = 60, SCHEMES = 12, VOTES = 60;
    private static final int SCHEME = 1, PLAN = 2, BILL = 3, CALL = 4, LOAN = 5, CLAIM = 6;
    private static final int[] UNDER = {NONE, 0, SCHEME, SCHEME, 0, CALL, 0};
    private static final int[] NO_CELLS = {};
    private static final int OLDER_SURVEY = 1000000, STEEPEST_RISE = 10000;
    private static final int TAPE = 140, ORDERS = 8, CLAUSES = 8, OPEN = 5;
    private static final int WORDS = 7, SLOPE = 0, CLOSE = 1, STROKE = 2, CALLED = 3, GAP = 4, PARKS = 5, LET = 6;
    private static final int[] USUAL = {99, 2, 999, 50, 10, 1, 0};
    private static final int FACTS = 6, YARDS = 0, TRADE = 1, PARKED = 2, RIVERS = 3, CLAIMS = 4, GAUGE = 5;
    private static final int JOBS = 7, OFFERS = 40, MOST_SHARES = 99, ROUNDS = 300;
    private static final int YARDS_A_MAN = 3, COINS_A_YARD = 2;
    private static final int RELAYABLE = 10, GRANTABLE = 8;
    /** More than any yards or hours can be. */
    private static final int FAR = 1000000;

    private final World now = new World();
    private final World kept = new World();
    private boolean isKept;
    /** Row d tells, by papers, what was known behind day d; days that went by never change, so the image needs none. */
    private final int[][] past = new int[LAST_DAY + 1][];
    private final Roads roads = new Roads();
    private final Debts debts = new Debts();
    private final Lines lines = new Lines();

    public LinesPromised() {
    }

    // ---- the land

    public int land(int cell, int what, int n) {
        if (!within(cell, 0, CELLS - 1) || !within(what, 0, 1)) return NONE;
        if (!within(n, 0, what == 0 ? 99 : PARK)) return BAD;
        int[] row = what == 0 ? now.land.height : now.land.ground;
        int was = row[cell];
        row[cell] = n;
        return was;
    }

    public int town(int cell, int trade) {
        if (!within(cell, 0, CELLS - 1)) return NONE;
        if (!within(trade, 0, 99)) return BAD;
        if (now.land.isTaken(cell)) return STATE;
        if (now.land.towns >= TOWNS) return FULL;
        return now.land.found(cell, trade);
    }

    public int coin(int holder, int n) {
        if (!isHolder(holder)) return NONE;
        if (!within(n, 0, 99999)) return BAD;
        int was = now.scrip.coins[holder];
        now.scrip.coins[holder] = n;
        return was;
    }

    public int man(int n) {
        if (!within(n, 0, 99)) return BAD;
        int was = now.men;
        now.men = n;
        return was;
    }

    // ---- orders

    public int feed(long w, int n) {
        if (!within(n, 1, 8)) return BAD;
        if (now.taped + n > TAPE) return FULL;
        for (int i = n - 1; i >= 0; i--) {
            now.tape[now.taped] = (byte) (w >> (8 * i));
            now.taped++;
        }
        return now.taped;
    }

    public int text(int day) {
        if (!isDay(day)) return BAD;
        if (now.ordered >= ORDERS) return FULL;
        Order order = now.takeTape(day);
        int fault = order.faultOf();
        return fault == NONE ? now.enforce(order) : FAULT - fault;
    }

    public int force(int word, int day) {
        if (!within(word, 0, WORDS - 1)) return NONE;
        if (!isDay(day)) return BAD;
        if (word == LET) return now.ruling(LET, day) == null ? 0 : 1;
        return now.ruleOf(word, day);
    }

    public int why(int word, int day) {
        if (!within(word, 0, WORDS - 1)) return NONE;
        if (!isDay(day)) return BAD;
        int by = now.ordering(word, day);
        Order order = now.ruling(word, day);
        return order == null ? NOWHERE : 100 * by + order.place[word];
    }

    // ---- papers

    public int scheme(int from, int to, int gauge, int shares) {
        if (!isTown(from) || !isTown(to)) return NONE;
        if (from == to || !within(gauge, 0, 1) || !within(shares, 1, MOST_SHARES)) return BAD;
        if (now.papers.isFull() || now.papers.schemes >= SCHEMES) return FULL;
        Paper made = new Paper(SCHEME, NONE, now.today, NO_CELLS, NO_CELLS);
        made.tell(from, to, gauge, shares);
        made.slot = now.papers.schemes;
        now.scrip.begin(made.slot, shares);
        return now.papers.file(made);
    }

    public int chain(int scheme, int cells, int rises) {
        Paper of = now.papers.find(scheme, SCHEME);
        if (of == null || !isSheet(cells) || !isSheet(rises)) return NONE;
        if (now.sheets[cells].sort == GONE) return NO_ROW;
        if (now.sheets[cells].sort != BYTES) return UNLIKE;
        if (now.papers.isFull()) return FULL;
        return now.papers.file(now.survey(scheme, of, now.sheets[cells], now.sheets[rises]));
    }

    public int way(int plan, int what) {
        Paper of = now.papers.find(plan, PLAN);
        if (of == null) return NONE;
        if (what == 0) return of.cells.length;
        if (what == 1) return of.torn;
        if (what == 2) return now.land.yardsOf(of.cells);
        return within(what - 10L, 0, of.cells.length - 1) ? of.cells[what - 10] : NONE;
    }

    public int level(int plan, int i) {
        Paper of = now.papers.find(plan, PLAN);
        if (of == null || !within(i, 0, of.cells.length - 1)) return NONE;
        return i < of.levels.length ? of.levels[i] : NO_LEVEL;
    }

    public int close(int plan, int what, int day) {
        Paper of = now.papers.find(plan, PLAN);
        if (of == null || !within(what, 0, 1)) return NONE;
        if (!isDay(day)) return BAD;
        return what == 0 ? now.whereNotClose(of, day) : now.whereSteep(of, day);
    }

    public int quarrel(int a, int b) {
        Paper first = now.papers.find(a, PLAN);
        Paper second = now.papers.find(b, PLAN);
        if (first == null || second == null) return NONE;
        if (a == b) return BAD;
        return first.cellAtOddsWith(second);
    }

    public int slope(int a, int b, int day, int what) {
        if (!isTown(a) || !isTown(b) || what < 0 || within(what, 2, 9)) return NONE;
        if (a == b || !isDay(day)) return BAD;
        if (!roads.seek(now, a, b, day)) return NOWHERE;
        if (what == 0) return roads.yards;
        if (what == 1) return roads.size;
        return what - 10 < roads.size ? roads.cells[what - 10] : NONE;
    }

    public int claim(int cell, int coins) {
        if (!within(cell, 0, CELLS - 1)) return NONE;
        if (!within(coins, 1, 9999)) return BAD;
        if (now.papers.isFull()) return FULL;
        Paper made = new Paper(CLAIM, NONE, now.today, NO_CELLS, NO_CELLS);
        made.tell(cell, NONE, NONE, coins);
        now.land.claimed[cell] += coins;
        return now.papers.file(made);
    }

    public int bill(int plan) {
        Paper of = now.papers.find(plan, PLAN);
        if (of == null) return NONE;
        if (now.papers.hasBill(plan) || !now.canBeBrought(of)) return STATE;
        if (now.papers.isFull()) return FULL;
        Paper made = new Paper(BILL, plan, now.today, of.cells, of.levels);
        made.tell(of.first, of.second, of.gauge, NONE);
        made.slot = of.slot;
        return now.papers.file(made);
    }

    public int hear(int bill, int day) {
        Paper of = now.papers.find(bill, BILL);
        if (of == null) return NONE;
        if (!isDay(day)) return BAD;
        return now.canBeLet(of, day) ? 1 : 0;
    }

    public int bar(int a, int b) {
        if (now.papers.find(a, BILL) == null || now.papers.find(b, BILL) == null) return NONE;
        if (a == b) return BAD;
        return now.papers.setAtBar(a, b) ? 1 : 0;
    }

    public int grant(int bill) {
        Paper of = now.papers.find(bill, BILL);
        if (of == null) return NONE;
        Papers papers = now.papers;
        if (papers.isMarked(bill) || papers.isBarred(bill) || !now.canBeLet(of, now.today)) return STATE;
        papers.mark(bill);
        papers.left[bill] = now.land.yardsOf(of.cells);
        return papers.granted();
    }

    public int cast(int paper, int k) {
        Paper of = now.papers.get(paper);
        if (of == null || !within(k, 0, CLAIM)) return NONE;
        return of.isUnder(k) ? now.papers.worthOf(of) : UNLIKE;
    }

    public int about(int paper, int what) {
        Paper of = now.papers.get(paper);
        if (of == null) return NONE;
        switch (what) {
            case 0: return of.kind;
            case 1: return of.of;
            case 2: return of.day;
            case 3: return of.first;
            case 4: return of.second;
            case 5: return of.gauge;
            case 6: return of.sum;
            case 7: return now.papers.isMarked(paper) ? 1 : 0;
            default: return NONE;
        }
    }

    // ---- votes, jobs

    public int board(int holder, int bill, boolean yes) {
        if (!isHolder(holder) || now.papers.find(bill, BILL) == null) return NONE;
        if (now.papers.votes >= VOTES) return FULL;
        return now.papers.vote(holder, bill, yes);
    }

    public int doubled() {
        return now.papers.votersBothWays();
    }

    public int hand(int survey, int press) {
        if (!within(survey, 1, 30) || !within(press, 1, 30)) return BAD;
        if (now.press.size >= JOBS) return FULL;
        return now.press.add(survey, press);
    }

    public int midnight(int h, int i) {
        if (i < -1) return NONE;
        if (!within(h, 1, 999)) return BAD;
        int printed = now.press.order(h);
        if (i == -1) return printed;
        return i < printed ? now.press.row[i] : NONE;
    }

    // ---- scrip

    public int scrip(int scheme, int holder, int n) {
        Paper of = now.papers.find(scheme, SCHEME);
        if (of == null || !isHolder(holder)) return NONE;
        if (!within(n, 1, MOST_SHARES)) return BAD;
        if (now.papers.isMarked(scheme) || now.scrip.sharesOf(of.slot, HOLDERS) < n) return STATE;
        now.scrip.pass(of.slot, HOLDERS, holder, n);
        return now.scrip.sharesOf(of.slot, holder);
    }

    public int held(int scheme, int holder) {
        Paper of = now.papers.find(scheme, SCHEME);
        if (of == null || !within(holder, 0, HOLDERS)) return NONE;
        return now.scrip.sharesOf(of.slot, holder);
    }

    public int purse(int what, int which) {
        int party = partyOf(what, which);
        return party == NONE ? NONE : now.scrip.coins[party];
    }

    public int ask(int scheme, int holder, int n, int price, boolean ask) {
        Paper of = now.papers.find(scheme, SCHEME);
        if (of == null || !isHolder(holder)) return NONE;
        if (!within(n, 1, MOST_SHARES) || !within(price, 1, 999)) return BAD;
        if (now.scrip.standing >= OFFERS) return FULL;
        return now.scrip.stand(of.slot, holder, n, price, ask);
    }

    public int price(int scheme) {
        Paper of = now.papers.find(scheme, SCHEME);
        return of == null ? NONE : now.scrip.tradeIn(of.slot);
    }

    public int read(int scheme) {
        Paper of = now.papers.find(scheme, SCHEME);
        return of == null ? NONE : now.scrip.latest[of.slot];
    }

    public int call(int scheme, int pence) {
        if (now.papers.find(scheme, SCHEME) == null) return NONE;
        if (!within(pence, 1, now.ruleOf(CALLED, now.today))) return BAD;
        if (now.papers.isMarked(scheme) || now.isTooSoon(scheme)) return STATE;
        if (now.papers.isFull()) return FULL;
        Paper made = new Paper(CALL, scheme, now.today, NO_CELLS, NO_CELLS);
        made.tell(NONE, NONE, NONE, pence);
        return now.papers.file(made);
    }

    public int lend(int scheme, int holder, int coins) {
        Paper of = now.papers.find(scheme, SCHEME);
        if (of == null || !isHolder(holder)) return NONE;
        if (!within(coins, 1, 9999)) return BAD;
        if (now.papers.isMarked(scheme) || now.scrip.coins[holder] < coins) return STATE;
        if (now.papers.isFull()) return FULL;
        now.scrip.coins[holder] -= coins;
        now.scrip.coins[HOLDERS + of.slot] += coins;
        Paper made = new Paper(LOAN, scheme, now.today, NO_CELLS, NO_CELLS);
        made.tell(holder, NONE, NONE, coins);
        return now.papers.file(made);
    }

    public int settle() {
        debts.reckon(now.papers, now.scrip);
        debts.payOut(now.scrip);
        return debts.fell(now.papers, now.scrip);
    }

    public int along(int what, int which) {
        int party = partyOf(what, which);
        if (party == NONE) return NONE;
        debts.reckon(now.papers, now.scrip);
        return debts.paidBy(party);
    }

    // ---- digging, gauges

    public int dig(int n) {
        if (!within(n, 1, 50) || now.today + n > LAST_DAY) return BAD;
        for (int i = 0; i < n; i++) {
            now.digToday();
            remember(now.today);
            now.today++;
        }
        return now.today;
    }

    public int last(int bill, int what) {
        if (now.papers.find(bill, BILL) == null || !within(what, 0, 1)) return NONE;
        if (!now.papers.isMarked(bill)) return STATE;
        return what == 0 ? now.papers.left[bill] : now.papers.done[bill];
    }

    public int meet() {
        return now.papers.townsOfBothGauges();
    }

    public int gauge(int towns) {
        if (!areTowns(towns)) return BAD;
        if (now.papers.granted() > RELAYABLE) return TOO_MANY;
        gatherGranted();
        return lines.fewestRelaid(towns);
    }

    public int plan(int towns, int yards, int coins, int what) {
        if (!within(what, 0, 1)) return NONE;
        if (!areTowns(towns) || !within(yards, 0, 99999) || !within(coins, 0, 999999)) return BAD;
        gatherGrantable();
        int set = lines.cheapest(towns, yards, coins);
        if (set < 0) return NOWHERE;
        return what == 0 ? set : lines.coinsOf(set);
    }

    public int tried(int what) {
        if (!within(what, 0, 2)) return NONE;
        Order order = now.takeTape(now.today);
        int fault = order.faultOf();
        if (fault != NONE) return FAULT - fault;
        now.enforce(order);
        int found = what == 2 ? triedYards() : triedPapers(what == 0 ? PLAN : BILL);
        now.dropLatestOrder();
        return found;
    }

    // ---- what was known, the image

    public int known(int paper, int day) {
        if (now.papers.get(paper) == null || !within(day, 0, now.today - 1)) return NONE;
        int[] row = past[day];
        return row == null ? NONE : row[paper];
    }

    public int image() {
        kept.become(now);
        isKept = true;
        return now.today;
    }

    public int undo() {
        if (!isKept) return STATE;
        now.become(kept);
        return now.today;
    }

    public int count(int what) {
        switch (what) {
            case 0: return now.land.towns;
            case 1: return now.papers.size;
            case 2: return now.ordered;
            case 3: return now.today;
            case 4: return now.taped;
            case 5: return now.men;
            case 6: return now.papers.granted();
            case 7: return now.papers.finished();
            case 8: return now.press.size;
            case 9: return now.scrip.standing;
            case 10: return now.papers.votes;
            default: return NONE;
        }
    }

    // ---- the host

    public int sheet(int sheet, int sort, int n) {
        if (!isSheet(sheet)) return NONE;
        if (!within(sort, GONE, INTS) || (sort != GONE && n > ROW)) return BAD;
        if (sort != GONE && n < 0) return BELOW;
        now.sheets[sheet].clear(sort, sort == GONE ? 0 : n);
        return 1;
    }

    public int item(int sheet, int i, int v) {
        if (!isSheet(sheet)) return NONE;
        Sheet of = now.sheets[sheet];
        if (of.sort == GONE) return NO_ROW;
        if (!within(i, 0, of.size - 1)) return OUTSIDE;
        of.put(i, v);
        return 1;
    }

    public int copy(int sheet, int i, int other, int j, int n) {
        if (!isSheet(sheet) || !isSheet(other)) return NONE;
        Sheet from = now.sheets[sheet];
        Sheet to = now.sheets[other];
        if (from.sort == GONE || to.sort == GONE) return NO_ROW;
        if (from.sort != to.sort) return UNLIKE;
        if (!from.has(i, n) || !to.has(j, n)) return OUTSIDE;
        System.arraycopy(from.row, i, to.row, j, n);
        return n;
    }

    // ---- what the calls above share

    private static boolean within(long n, int least, int most) {
        return n >= least && n <= most;
    }

    private static boolean isDay(int day) {
        return within(day, 0, LAST_DAY);
    }

    private static boolean isHolder(int holder) {
        return within(holder, 0, HOLDERS - 1);
    }

    private static boolean isSheet(int sheet) {
        return within(sheet, 0, SHEETS - 1);
    }

    private boolean isTown(int town) {
        return within(town, 0, now.land.towns - 1);
    }

    private boolean areTowns(int bits) {
        return within(bits, 0, (1 << now.land.towns) - 1);
    }

    /** The place of a purse: that of a holder (what 0), or of a scheme by its paper (what 1); NONE without. */
    private int partyOf(int what, int which) {
        if (what == 0) return isHolder(which) ? which : NONE;
        Paper of = what == 1 ? now.papers.find(which, SCHEME) : null;
        return of == null ? NONE : HOLDERS + of.slot;
    }

    private void remember(int day) {
        if (past[day] == null) past[day] = new int[PAPERS];
        int[] row = past[day];
        Arrays.fill(row, NONE);
        for (int number = 0; number < now.papers.size; number++) {
            Paper scheme = now.papers.find(number, SCHEME);
            if (scheme != null) {
                row[number] = now.scrip.coins[HOLDERS + scheme.slot];
            } else if (now.papers.isGranted(number)) {
                row[number] = now.papers.left[number];
            }
        }
    }

    private void gatherGranted() {
        lines.clear();
        for (int number = 0; number < now.papers.size; number++) {
            Paper of = now.papers.find(number, BILL);
            if (of != null && now.papers.isMarked(number)) {
                lines.add(number, of, 0L, 0, 0);
            }
        }
    }

    private void gatherGrantable() {
        lines.clear();
        for (int number = 0; number < now.papers.size && lines.size < GRANTABLE; number++) {
            Paper of = now.papers.find(number, BILL);
            if (of != null && !now.papers.isMarked(number) && now.canBeLet(of, now.today)) {
                int yards = now.land.yardsOf(of.cells);
                int coins = COINS_A_YARD * yards + now.land.claimsOf(of.cells);
                lines.add(number, of, now.papers.bars[number], yards, coins);
            }
        }
    }

    private int triedYards() {
        return now.land.towns >= 2 && roads.seek(now, 0, 1, now.today) ? roads.yards : NOWHERE;
    }

    private int triedPapers(int kind) {
        int found = 0;
        for (int number = 0; number < now.papers.size; number++) {
            Paper of = now.papers.find(number, kind);
            if (of == null) continue;
            if (kind == PLAN ? now.isSound(of) : now.canBeLet(of, now.today)) found++;
        }
        return found;
    }

    /** All that there is, but the image: that is a second one of these. */
    static final class World {
        final Land land = new Land();
        final Papers papers = new Papers();
        final Scrip scrip = new Scrip();
        final Press press = new Press();
        final Sheet[] sheets = new Sheet[SHEETS];
        final byte[] tape = new byte[TAPE];
        /** One place more than orders can be: for the one that is only tried. */
        final Order[] orders = new Order[ORDERS + 1];
        int taped, ordered, today, men;

        World() {
            for (int i = 0; i < SHEETS; i++) {
                sheets[i] = new Sheet();
            }
        }

        void become(World other) {
            land.become(other.land);
            papers.become(other.papers);
            scrip.become(other.scrip);
            press.become(other.press);
            for (int i = 0; i < SHEETS; i++) {
                sheets[i].become(other.sheets[i]);
            }
            System.arraycopy(other.tape, 0, tape, 0, TAPE);
            for (int i = 0; i < orders.length; i++) {
                orders[i] = other.orders[i];
            }
            taped = other.taped;
            ordered = other.ordered;
            today = other.today;
            men = other.men;
        }

        Order takeTape(int day) {
            Order order = new Order(day, tape, taped);
            taped = 0;
            return order;
        }

        int enforce(Order order) {
            if (ordered >= orders.length) return FULL;
            orders[ordered] = order;
            ordered++;
            return ordered - 1;
        }

        void dropLatestOrder() {
            if (ordered == 0) return;
            ordered--;
            orders[ordered] = null;
        }

        /** The number of the order that rules a word on a day, or NONE. */
        int ordering(int word, int day) {
            int by = NONE;
            int since = NONE;
            for (int i = 0; i < ordered; i++) {
                Order order = orders[i];
                if (order != null && order.place[word] != NONE && order.day <= day && order.day >= since) {
                    by = i;
                    since = order.day;
                }
            }
            return by;
        }

        Order ruling(int word, int day) {
            int by = ordering(word, day);
            return by == NONE ? null : orders[by];
        }

        int ruleOf(int word, int day) {
            Order order = ruling(word, day);
            return order == null ? USUAL[word] : order.number[word];
        }

        Paper survey(int scheme, Paper of, Sheet row, Sheet rises) {
            int goal = land.townCell[of.second];
            int size = land.follow(row, land.townCell[of.first], goal);
            int[] cells = Arrays.copyOf(row.row, size);
            Paper made = new Paper(PLAN, scheme, today, cells, land.levelsOf(cells, rises));
            made.tell(of.first, of.second, of.gauge, NONE);
            made.slot = of.slot;
            if (size == 0 || cells[size - 1] != goal) made.torn = size;
            return made;
        }

        int whereNotClose(Paper plan, int day) {
            int most = ruleOf(CLOSE, day);
            for (int i = 0; i < plan.cells.length; i++) {
                if (i >= plan.levels.length) return i;
                if (Math.abs(plan.levels[i] - land.height[plan.cells[i]]) > most) return i;
            }
            return NOWHERE;
        }

        int whereSteep(Paper plan, int day) {
            int most = ruleOf(SLOPE, day);
            for (int i = 1; i < plan.cells.length; i++) {
                if (land.climb(plan.cells[i - 1], plan.cells[i]) > most) return i;
            }
            return NOWHERE;
        }

        boolean isSound(Paper plan) {
            return whereNotClose(plan, today) == NOWHERE && whereSteep(plan, today) == NOWHERE;
        }

        boolean canBeBrought(Paper plan) {
            return plan.torn == NOWHERE && isSound(plan) && today <= ruleOf(STROKE, today);
        }

        boolean canBeLet(Paper bill, int day) {
            Order order = ruling(LET, day);
            if (order == null) return true;
            order.facts[YARDS] = land.yardsOf(bill.cells) / 10;
            order.facts[TRADE] = land.trade[bill.first] + land.trade[bill.second];
            order.facts[PARKED] = land.cellsOf(bill.cells, PARK);
            order.facts[RIVERS] = land.cellsOf(bill.cells, RIVER);
            order.facts[CLAIMS] = land.claimsOf(bill.cells);
            order.facts[GAUGE] = bill.gauge;
            return order.lets();
        }

        boolean isTooSoon(int scheme) {
            int latest = papers.latestCall(scheme);
            return latest != NONE && today - latest < ruleOf(GAP, today);
        }

        void digToday() {
            int able = YARDS_A_MAN * men;
            for (int number = 0; number < papers.size; number++) {
                Paper of = papers.find(number, BILL);
                if (of != null && papers.isMarked(number)) able -= digLine(number, of.slot, able);
            }
        }

        private int digLine(int bill, int slot, int able) {
            if (papers.left[bill] == 0 || papers.isFallen(slot)) return 0;
            int purse = HOLDERS + slot;
            int yards = Math.min(papers.left[bill], Math.min(able, scrip.coins[purse] / COINS_A_YARD));
            scrip.coins[purse] -= COINS_A_YARD * yards;
            papers.left[bill] -= yards;
            if (papers.left[bill] == 0) papers.done[bill] = today;
            return yards;
        }
    }

    /** The cells, the towns in them, and what is claimed of each. */
    static final class Land {
        final int[] height = new int[CELLS];
        final int[] ground = new int[CELLS];
        final int[] claimed = new int[CELLS];
        final int[] townCell = new int[TOWNS];
        final int[] trade = new int[TOWNS];
        int towns;

        void become(Land other) {
            System.arraycopy(other.height, 0, height, 0, CELLS);
            System.arraycopy(other.ground, 0, ground, 0, CELLS);
            System.arraycopy(other.claimed, 0, claimed, 0, CELLS);
            System.arraycopy(other.townCell, 0, townCell, 0, TOWNS);
            System.arraycopy(other.trade, 0, trade, 0, TOWNS);
            towns = other.towns;
        }

        boolean isTaken(int cell) {
            for (int i = 0; i < towns; i++) {
                if (townCell[i] == cell) return true;
            }
            return false;
        }

        int found(int cell, int tradeThere) {
            townCell[towns] = cell;
            trade[towns] = tradeThere;
            towns++;
            return towns - 1;
        }

        /** The neighbours 0 .. 3 of a cell from the least number on, NONE where the land ends. */
        static int beside(int cell, int side) {
            switch (side) {
                case 0: return cell >= WIDTH ? cell - WIDTH : NONE;
                case 1: return cell % WIDTH > 0 ? cell - 1 : NONE;
                case 2: return cell % WIDTH < WIDTH - 1 ? cell + 1 : NONE;
                default: return cell + WIDTH < CELLS ? cell + WIDTH : NONE;
            }
        }

        private static boolean areBeside(int a, int b) {
            for (int side = 0; side < 4; side++) {
                if (beside(a, side) == b) return true;
            }
            return false;
        }

        /** How many numbers of a row are a way from one cell on to another. */
        int follow(Sheet row, int from, int to) {
            for (int i = 0; i < row.size; i++) {
                if (!goesOn(row, i, from)) return i;
                if (row.row[i] == to) return i + 1;
            }
            return row.size;
        }

        private static boolean goesOn(Sheet row, int i, int from) {
            int cell = row.row[i];
            if (i == 0) return cell == from;
            if (!within(cell, 0, CELLS - 1) || !areBeside(row.row[i - 1], cell)) return false;
            for (int j = 0; j < i; j++) {
                if (row.row[j] == cell) return false;
            }
            return true;
        }

        /** The levels that are told: one for each cell, as far as there are rises. */
        int[] levelsOf(int[] cells, Sheet rises) {
            int told = Math.min(cells.length, rises.sort == INTS ? rises.size + 1 : 1);
            int[] levels = new int[told];
            for (int i = 0; i < told; i++) {
                levels[i] = i == 0 ? height[cells[0]] : levels[i - 1] + riseTo(cells, i, rises.row[i - 1]);
            }
            return levels;
        }

        private int riseTo(int[] cells, int i, int rise) {
            if (rise == OLDER_SURVEY) return height[cells[i]] - height[cells[i - 1]];
            return Math.max(-STEEPEST_RISE, Math.min(STEEPEST_RISE, rise));
        }

        int climb(int from, int to) {
            return Math.abs(height[to] - height[from]);
        }

        int yardsTo(int from, int to) {
            int more = ground[to] == RIVER ? 20 : ground[to] == PARK ? 5 : 0;
            return 10 + 3 * climb(from, to) + more;
        }

        int yardsOf(int[] cells) {
            int yards = 0;
            for (int i = 1; i < cells.length; i++) {
                yards += yardsTo(cells[i - 1], cells[i]);
            }
            return yards;
        }

        int claimsOf(int[] cells) {
            int coins = 0;
            for (int i = 0; i < cells.length; i++) {
                coins += claimed[cells[i]];
            }
            return coins;
        }

        int cellsOf(int[] cells, int what) {
            int found = 0;
            for (int i = 0; i < cells.length; i++) {
                if (ground[cells[i]] == what) found++;
            }
            return found;
        }
    }

    /** An order: a text, read clause by clause. Every reader stops at the first byte that it can't take. */
    static final class Order {
        final int day;
        final byte[] text;
        /** What the last clause of each word tells; of LET the place where its E begins. */
        final int[] number = new int[WORDS];
        /** Which clause is the last of each word, or NONE. */
        final int[] place = new int[WORDS];
        /** What the letters of E stand for while it is asked. */
        final int[] facts = new int[FACTS];
        private int at;

        Order(int day, byte[] tape, int size) {
            this.day = day;
            this.text = Arrays.copyOf(tape, size);
            Arrays.fill(place, NONE);
        }

        /** Reads the text whole: the place of its fault, or NONE. */
        int faultOf() {
            at = 0;
            for (int clause = 0; clause < CLAUSES; clause++) {
                if (!readClause(clause)) return at;
                if (at >= text.length) return NONE;
                if (text[at] != ';' || clause == CLAUSES - 1) return at;
                at++;
            }
            return at;
        }

        boolean lets() {
            at = number[LET];
            return either(0) == 1;
        }

        private static String nameOf(int word) {
            switch (word) {
                case SLOPE: return "slope ";
                case CLOSE: return "close ";
                case STROKE: return "stroke ";
                case CALLED: return "call ";
                case GAP: return "gap ";
                case PARKS: return "park ";
                default: return "let ";
            }
        }

        private int peek() {
            return at < text.length ? text[at] : NONE;
        }

        private boolean readClause(int clause) {
            int word = readWord();
            if (word == NONE) return false;
            int begin = at;
            int told = word == LET ? either(0) : word == PARKS ? readYesOrNo() : readNumber();
            if (told == NONE) return false;
            number[word] = word == LET ? begin : told;
            place[word] = clause;
            return true;
        }

        private int readWord() {
            int longest = 0;
            for (int word = 0; word < WORDS; word++) {
                String name = nameOf(word);
                int fits = fitting(name);
                if (fits == name.length()) {
                    at += fits;
                    return word;
                }
                longest = Math.max(longest, fits);
            }
            at += longest;
            return NONE;
        }

        private int fitting(String name) {
            int fits = 0;
            while (fits < name.length() && at + fits < text.length && text[at + fits] == name.charAt(fits)) {
                fits++;
            }
            return fits;
        }

        private int readYesOrNo() {
            int sign = peek();
            if (sign != 'y' && sign != 'n') return NONE;
            at++;
            return sign == 'y' ? 1 : 0;
        }

        private int readNumber() {
            int n = NONE;
            for (int digits = 0; digits < 3 && n != 0 && at < text.length; digits++) {
                int digit = text[at] - '0';
                if (digit < 0 || digit > 9) return n;
                n = n == NONE ? digit : 10 * n + digit;
                at++;
            }
            return n;
        }

        /** E: 1 or 0 by the facts, NONE at a fault. */
        private int either(int open) {
            int any = 0;
            int all = 1;
            for (int parts = 0; parts < TAPE; parts++) {
                int part = single(open);
                if (part == NONE) return NONE;
                all &= part;
                int sign = peek();
                if (sign != '&') {
                    any |= all;
                    all = 1;
                    if (sign != '|') return any;
                }
                at++;
            }
            return NONE;
        }

        private int single(int open) {
            int sign = peek();
            if (sign != '!' && sign != '(') return compared(sign);
            if (open >= OPEN) return NONE;
            at++;
            if (sign == '!') {
                int denied = single(open + 1);
                return denied == NONE ? NONE : 1 - denied;
            }
            int truth = either(open + 1);
            if (truth == NONE || peek() != ')') return NONE;
            at++;
            return truth;
        }

        private static int factOf(int letter) {
            switch (letter) {
                case 'y': return YARDS;
                case 't': return TRADE;
                case 'w': return PARKED;
                case 'r': return RIVERS;
                case 'c': return CLAIMS;
                case 'g': return GAUGE;
                default: return NONE;
            }
        }

        private int compared(int letter) {
            int fact = factOf(letter);
            if (fact == NONE) return NONE;
            at++;
            int sign = peek();
            if (fact == GAUGE ? sign != '=' : sign != '<' && sign != '>') return NONE;
            at++;
            if (fact == GAUGE) return comparedGauge(peek());
            int n = readNumber();
            if (n == NONE) return NONE;
            return (sign == '<' ? facts[fact] < n : facts[fact] > n) ? 1 : 0;
        }

        private int comparedGauge(int sign) {
            if (sign != '0' && sign != '1') return NONE;
            at++;
            return facts[GAUGE] == sign - '0' ? 1 : 0;
        }
    }

    /** One paper: once it is filed it never changes, so the image may share it. */
    static final class Paper {
        final int kind;
        /** The paper that it is of, or NONE. */
        final int of;
        final int day;
        final int[] cells;
        /** As many as are told: behind them levels are missing. */
        final int[] levels;
        int first = NONE, second = NONE, gauge = NONE, sum = NONE;
        int slot = NONE;
        int torn = NOWHERE;

        Paper(int kind, int of, int day, int[] cells, int[] levels) {
            this.kind = kind;
            this.of = of;
            this.day = day;
            this.cells = cells;
            this.levels = levels;
        }

        void tell(int firstTold, int secondTold, int gaugeTold, int sumTold) {
            first = firstTold;
            second = secondTold;
            gauge = gaugeTold;
            sum = sumTold;
        }

        boolean isUnder(int other) {
            int above = kind;
            for (int step = 0; step < UNDER.length && above != NONE; step++) {
                if (above == other) return true;
                above = UNDER[above];
            }
            return false;
        }

        int cellAtOddsWith(Paper other) {
            for (int i = 0; i < levels.length; i++) {
                for (int j = 0; j < other.levels.length; j++) {
                    if (cells[i] == other.cells[j] && levels[i] != other.levels[j]) return cells[i];
                }
            }
            return NOWHERE;
        }
    }

    /** The papers by numbers, and what becomes of them. */
    static final class Papers {
        final Paper[] filed = new Paper[PAPERS];
        /** By bills: the bills that they bar, as bits. */
        final long[] bars = new long[PAPERS];
        final int[] left = new int[PAPERS];
        final int[] done = new int[PAPERS];
        /** By bills: the holders that voted so, as bits. */
        final int[] votesFor = new int[PAPERS];
        final int[] votesAgainst = new int[PAPERS];
        /** Bills that are granted, calls and loans that are settled, schemes that are fallen, as bits. */
        long marked;
        int size, schemes, votes;

        void become(Papers other) {
            for (int i = 0; i < PAPERS; i++) {
                filed[i] = other.filed[i];
            }
            System.arraycopy(other.bars, 0, bars, 0, PAPERS);
            System.arraycopy(other.left, 0, left, 0, PAPERS);
            System.arraycopy(other.done, 0, done, 0, PAPERS);
            System.arraycopy(other.votesFor, 0, votesFor, 0, PAPERS);
            System.arraycopy(other.votesAgainst, 0, votesAgainst, 0, PAPERS);
            marked = other.marked;
            size = other.size;
            schemes = other.schemes;
            votes = other.votes;
        }

        boolean isFull() {
            return size >= PAPERS;
        }

        int file(Paper paper) {
            if (isFull()) return FULL;
            int number = size;
            filed[number] = paper;
            bars[number] = 0;
            left[number] = 0;
            done[number] = NOWHERE;
            votesFor[number] = 0;
            votesAgainst[number] = 0;
            size++;
            if (paper.kind == SCHEME) schemes++;
            return number;
        }

        Paper get(int number) {
            return within(number, 0, size - 1) ? filed[number] : null;
        }

        Paper find(int number, int kind) {
            Paper paper = get(number);
            return paper != null && paper.kind == kind ? paper : null;
        }

        void mark(int number) {
            marked |= 1L << number;
        }

        boolean isMarked(int number) {
            return (marked >> number & 1) != 0;
        }

        boolean isGranted(int number) {
            return isMarked(number) && find(number, BILL) != null;
        }

        boolean isFallen(int slot) {
            for (int number = 0; number < size; number++) {
                Paper scheme = find(number, SCHEME);
                if (scheme != null && scheme.slot == slot) return isMarked(number);
            }
            return false;
        }

        int granted() {
            int found = 0;
            for (int number = 0; number < size; number++) {
                if (isGranted(number)) found++;
            }
            return found;
        }

        int finished() {
            int found = 0;
            for (int number = 0; number < size; number++) {
                if (done[number] != NOWHERE) found++;
            }
            return found;
        }

        boolean hasBill(int plan) {
            for (int number = 0; number < size; number++) {
                Paper bill = find(number, BILL);
                if (bill != null && bill.of == plan) return true;
            }
            return false;
        }

        /** The day of the latest call of a scheme, or NONE. */
        int latestCall(int scheme) {
            for (int number = size - 1; number >= 0; number--) {
                Paper made = find(number, CALL);
                if (made != null && made.of == scheme) return made.day;
            }
            return NONE;
        }

        /** Whether this is news. */
        boolean setAtBar(int a, int b) {
            if ((bars[a] >> b & 1) != 0) return false;
            bars[a] |= 1L << b;
            bars[b] |= 1L << a;
            return true;
        }

        boolean isBarred(int bill) {
            return (bars[bill] & marked) != 0;
        }

        int worthOf(Paper paper) {
            switch (paper.kind) {
                case SCHEME: return 10 + paper.sum;
                case PLAN: return worthOfPlan(paper);
                case BILL: return 2 * worthOfPlan(get(paper.of));
                case CALL: return worthOfCall(paper.sum);
                case LOAN: return 2 * worthOfCall(paper.sum) - 1;
                default: return 1 + paper.sum;
            }
        }

        private int worthOfPlan(Paper plan) {
            Paper scheme = plan == null ? null : get(plan.of);
            return scheme == null ? 0 : 10 + scheme.sum + plan.cells.length;
        }

        private static int worthOfCall(int pence) {
            return 3 + 1 + pence;
        }

        int vote(int holder, int bill, boolean yes) {
            int[] row = yes ? votesFor : votesAgainst;
            row[bill] |= 1 << holder;
            votes++;
            return votes;
        }

        int votersBothWays() {
            int holders = 0;
            for (int number = 0; number < size; number++) {
                holders |= votesFor[number] & votesAgainst[number];
            }
            return holders;
        }

        int townsOfBothGauges() {
            int narrow = 0;
            int broad = 0;
            for (int number = 0; number < size; number++) {
                Paper bill = find(number, BILL);
                if (bill == null || done[number] == NOWHERE) continue;
                int ends = 1 << bill.first | 1 << bill.second;
                if (bill.gauge == 0) narrow |= ends; else broad |= ends;
            }
            return narrow & broad;
        }
    }

    /** Purses and shares, and what is offered and asked. Purses of schemes stand behind those of holders. */
    static final class Scrip {
        final int[] coins = new int[HOLDERS + SCHEMES];
        /** By schemes a row: that of each holder, then the scheme's own. */
        final int[] shares = new int[SCHEMES * (HOLDERS + 1)];
        final int[] latest = new int[SCHEMES];
        /** What stands, in the order in which it was told. */
        final int[] slots = new int[OFFERS];
        final int[] holders = new int[OFFERS];
        final int[] left = new int[OFFERS];
        final int[] prices = new int[OFFERS];
        final int[] asked = new int[OFFERS];
        int standing;

        void become(Scrip other) {
            System.arraycopy(other.coins, 0, coins, 0, coins.length);
            System.arraycopy(other.shares, 0, shares, 0, shares.length);
            System.arraycopy(other.latest, 0, latest, 0, SCHEMES);
            System.arraycopy(other.slots, 0, slots, 0, OFFERS);
            System.arraycopy(other.holders, 0, holders, 0, OFFERS);
            System.arraycopy(other.left, 0, left, 0, OFFERS);
            System.arraycopy(other.prices, 0, prices, 0, OFFERS);
            System.arraycopy(other.asked, 0, asked, 0, OFFERS);
            standing = other.standing;
        }

        void begin(int slot, int all) {
            coins[HOLDERS + slot] = 0;
            latest[slot] = NOWHERE;
            for (int holder = 0; holder < HOLDERS; holder++) {
                shares[slot * (HOLDERS + 1) + holder] = 0;
            }
            shares[slot * (HOLDERS + 1) + HOLDERS] = all;
        }

        int sharesOf(int slot, int holder) {
            return shares[slot * (HOLDERS + 1) + holder];
        }

        void pass(int slot, int from, int to, int n) {
            shares[slot * (HOLDERS + 1) + from] -= n;
            shares[slot * (HOLDERS + 1) + to] += n;
        }

        int stand(int slot, int holder, int n, int price, boolean isAsked) {
            slots[standing] = slot;
            holders[standing] = holder;
            left[standing] = n;
            prices[standing] = price;
            asked[standing] = isAsked ? 1 : 0;
            standing++;
            return standing;
        }

        int tradeIn(int slot) {
            int went = 0;
            for (int round = 0; round < OFFERS * (MOST_SHARES + 1); round++) {
                int offer = best(slot, 0);
                int wish = best(slot, 1);
                if (offer == NONE || wish == NONE || prices[wish] < prices[offer]) break;
                int n = goes(slot, offer, wish);
                if (n > 0) {
                    sell(slot, offer, wish, n);
                    went += n;
                } else {
                    left[sharesOf(slot, holders[offer]) == 0 ? offer : wish] = 0;
                }
            }
            clearStanding(slot);
            return went;
        }

        /** The least offered, or the greatest asked, that has any left: the one told first, or NONE. */
        private int best(int slot, int side) {
            int found = NONE;
            for (int i = 0; i < standing; i++) {
                if (slots[i] != slot || asked[i] != side || left[i] == 0) continue;
                if (found == NONE || (side == 0 ? prices[i] < prices[found] : prices[i] > prices[found])) found = i;
            }
            return found;
        }

        private int goes(int slot, int offer, int wish) {
            int price = prices[offer];
            if (price <= 0) return 0;
            int wanted = Math.min(left[offer], left[wish]);
            return Math.min(wanted, Math.min(sharesOf(slot, holders[offer]), coins[holders[wish]] / price));
        }

        private void sell(int slot, int offer, int wish, int n) {
            pass(slot, holders[offer], holders[wish], n);
            coins[holders[wish]] -= n * prices[offer];
            coins[holders[offer]] += n * prices[offer];
            left[offer] -= n;
            left[wish] -= n;
            latest[slot] = prices[offer];
        }

        private void clearStanding(int slot) {
            int stay = 0;
            for (int i = 0; i < standing; i++) {
                if (slots[i] == slot) continue;
                slots[stay] = slots[i];
                holders[stay] = holders[i];
                left[stay] = left[i];
                prices[stay] = prices[i];
                asked[stay] = asked[i];
                stay++;
            }
            standing = stay;
        }
    }

    /** A row of numbers of a sort, or missing. */
    static final class Sheet {
        final int[] row = new int[ROW];
        int sort = GONE, size;

        void become(Sheet other) {
            System.arraycopy(other.row, 0, row, 0, ROW);
            sort = other.sort;
            size = other.size;
        }

        void clear(int newSort, int n) {
            Arrays.fill(row, 0);
            sort = newSort;
            size = n;
        }

        void put(int i, int v) {
            row[i] = sort == BYTES ? (byte) v : sort == SHORTS ? (short) v : v;
        }

        boolean has(int from, int n) {
            return from >= 0 && n >= 0 && n <= size && from <= size - n;
        }
    }

    /** The jobs of one surveyor and one press. */
    static final class Press {
        final int[] survey = new int[JOBS];
        final int[] print = new int[JOBS];
        int size;
        /** The order found last. */
        final int[] row = new int[JOBS];
        /** By sets of jobs: when the last of them can be printed. */
        private final int[] ready = new int[1 << JOBS];

        void become(Press other) {
            System.arraycopy(other.survey, 0, survey, 0, JOBS);
            System.arraycopy(other.print, 0, print, 0, JOBS);
            size = other.size;
        }

        int add(int hours, int hoursPrinting) {
            survey[size] = hours;
            print[size] = hoursPrinting;
            size++;
            return size;
        }

        /** How many can be printed by an hour; the least of their orders is put into the row. */
        int order(int hour) {
            int free = (1 << size) - 1;
            int most = most(free, 0, 0, hour);
            int surveyed = 0;
            int printed = 0;
            for (int i = 0; i < most; i++) {
                int job = leastNext(free, surveyed, printed, hour, most - i);
                if (job == NONE) return i;
                row[i] = job;
                free &= ~(1 << job);
                surveyed += survey[job];
                printed = Math.max(surveyed, printed) + print[job];
            }
            return most;
        }

        private int leastNext(int free, int surveyed, int printed, int hour, int needed) {
            for (int job = 0; job < size; job++) {
                if ((free >> job & 1) == 0) continue;
                int then = surveyed + survey[job];
                int end = Math.max(then, printed) + print[job];
                if (end <= hour && most(free & ~(1 << job), then, end, hour) >= needed - 1) return job;
            }
            return NONE;
        }

        /** How many of the free jobs can still be printed, if surveyor and press are free at these hours. */
        private int most(int free, int surveyed, int printed, int hour) {
            int most = 0;
            ready[0] = printed;
            for (int set = 1; set < 1 << size; set++) {
                if ((set & ~free) != 0) continue;
                ready[set] = readyHour(set, surveyed);
                if (ready[set] <= hour) most = Math.max(most, Integer.bitCount(set));
            }
            return most;
        }

        private int readyHour(int set, int surveyed) {
            int then = surveyed;
            for (int job = 0; job < size; job++) {
                if ((set >> job & 1) != 0) then += survey[job];
            }
            int least = FAR;
            for (int job = 0; job < size; job++) {
                if ((set >> job & 1) == 0) continue;
                least = Math.min(least, Math.max(then, ready[set & ~(1 << job)]) + print[job]);
            }
            return least;
        }
    }

    /** The least way, sought from its end back, so that it can then be walked by the least cells. */
    static final class Roads {
        final int[] cells = new int[CELLS];
        int size, yards;
        private final int[] rest = new int[CELLS];
        private final boolean[] sure = new boolean[CELLS];
        private int from, to, steepest;
        private boolean throughParks;

        boolean seek(World world, int townA, int townB, int day) {
            from = world.land.townCell[townA];
            to = world.land.townCell[townB];
            steepest = world.ruleOf(SLOPE, day);
            throughParks = world.ruleOf(PARKS, day) == 1;
            measure(world.land);
            yards = rest[from];
            if (yards >= FAR) return false;
            walk(world.land);
            return true;
        }

        private void measure(Land land) {
            Arrays.fill(rest, FAR);
            for (int cell = 0; cell < CELLS; cell++) {
                sure[cell] = false;
            }
            rest[to] = 0;
            for (int round = 0; round < CELLS; round++) {
                int cell = nearest();
                if (cell == NONE) return;
                sure[cell] = true;
                for (int side = 0; side < 4; side++) {
                    int next = Land.beside(cell, side);
                    if (next != NONE && canStep(land, next, cell)) {
                        rest[next] = Math.min(rest[next], rest[cell] + land.yardsTo(next, cell));
                    }
                }
            }
        }

        private int nearest() {
            int found = NONE;
            for (int cell = 0; cell < CELLS; cell++) {
                if (!sure[cell] && rest[cell] < (found == NONE ? FAR : rest[found])) found = cell;
            }
            return found;
        }

        private boolean canStep(Land land, int a, int b) {
            return isOpen(land, a) && isOpen(land, b) && land.climb(a, b) <= steepest;
        }

        private boolean isOpen(Land land, int cell) {
            return throughParks || land.ground[cell] != PARK || cell == from || cell == to;
        }

        private void walk(Land land) {
            cells[0] = from;
            size = 1;
            for (int step = 1; step < CELLS && cells[step - 1] != to; step++) {
                int next = leastNext(land, cells[step - 1]);
                if (next == NONE) return;
                cells[step] = next;
                size = step + 1;
            }
        }

        private int leastNext(Land land, int cell) {
            for (int side = 0; side < 4; side++) {
                int next = Land.beside(cell, side);
                if (next == NONE || !canStep(land, cell, next)) continue;
                if (rest[next] + land.yardsTo(cell, next) == rest[cell]) return next;
            }
            return NONE;
        }
    }

    /** What is owed and what can be paid of it. A party is a holder, or behind the holders the slot of a scheme. */
    static final class Debts {
        /** By holders a row of schemes: what the holder owes the scheme, what the scheme owes the holder. */
        private final int[] calls = new int[HOLDERS * SCHEMES];
        private final int[] loans = new int[HOLDERS * SCHEMES];
        private final int[] callsPaid = new int[HOLDERS * SCHEMES];
        private final int[] loansPaid = new int[HOLDERS * SCHEMES];
        private final int[] due = new int[HOLDERS + SCHEMES];
        private final int[] income = new int[HOLDERS + SCHEMES];
        private int schemes;

        void reckon(Papers papers, Scrip scrip) {
            schemes = papers.schemes;
            gather(papers, scrip);
            addUpDue();
            Arrays.fill(callsPaid, 0);
            Arrays.fill(loansPaid, 0);
            boolean changed = true;
            for (int round = 0; round < ROUNDS && changed; round++) {
                addUpIncome();
                changed = payOnce(scrip);
            }
        }

        private void gather(Papers papers, Scrip scrip) {
            Arrays.fill(calls, 0);
            Arrays.fill(loans, 0);
            for (int number = 0; number < papers.size; number++) {
                Paper paper = papers.get(number);
                Paper scheme = paper == null ? null : papers.get(paper.of);
                if (scheme == null || papers.isMarked(number)) continue;
                if (paper.kind == LOAN) loans[paper.first * SCHEMES + scheme.slot] += paper.sum;
                for (int holder = 0; holder < HOLDERS && paper.kind == CALL; holder++) {
                    calls[holder * SCHEMES + scheme.slot] += paper.sum * scrip.sharesOf(scheme.slot, holder);
                }
            }
        }

        private void addUpDue() {
            Arrays.fill(due, 0);
            for (int i = 0; i < calls.length; i++) {
                due[i / SCHEMES] += calls[i];
                due[HOLDERS + i % SCHEMES] += loans[i];
            }
        }

        private void addUpIncome() {
            Arrays.fill(income, 0);
            for (int holder = 0; holder < HOLDERS; holder++) {
                for (int slot = 0; slot < schemes; slot++) {
                    income[holder] += loansPaid[holder * SCHEMES + slot];
                    income[HOLDERS + slot] += callsPaid[holder * SCHEMES + slot];
                }
            }
        }

        /** Whether anything is paid otherwise than in the round ahead. */
        private boolean payOnce(Scrip scrip) {
            boolean changed = false;
            for (int holder = 0; holder < HOLDERS; holder++) {
                for (int slot = 0; slot < schemes; slot++) {
                    int i = holder * SCHEMES + slot;
                    int called = part(scrip, holder, calls[i]);
                    int lent = part(scrip, HOLDERS + slot, loans[i]);
                    changed = changed || called != callsPaid[i] || lent != loansPaid[i];
                    callsPaid[i] = called;
                    loansPaid[i] = lent;
                }
            }
            return changed;
        }

        private int part(Scrip scrip, int party, int owed) {
            if (owed == 0 || due[party] == 0) return 0;
            long able = Math.min((long) due[party], (long) scrip.coins[party] + income[party]);
            return (int) (able * owed / due[party]);
        }

        int paidBy(int party) {
            int sum = 0;
            for (int i = 0; i < calls.length; i++) {
                if (party == i / SCHEMES) sum += callsPaid[i];
                if (party == HOLDERS + i % SCHEMES) sum += loansPaid[i];
            }
            return sum;
        }

        void payOut(Scrip scrip) {
            for (int i = 0; i < calls.length; i++) {
                int paid = callsPaid[i] - loansPaid[i];
                scrip.coins[i / SCHEMES] -= paid;
                scrip.coins[HOLDERS + i % SCHEMES] += paid;
            }
        }

        /** Ends what was reckoned: who could not pay all, as bits. */
        int fell(Papers papers, Scrip scrip) {
            int fallen = 0;
            for (int party = 0; party < due.length; party++) {
                if (paidBy(party) < due[party]) fallen |= 1 << party;
            }
            for (int i = 0; i < calls.length; i++) {
                int holder = i / SCHEMES;
                int slot = i % SCHEMES;
                if ((fallen >> holder & 1) == 0 || calls[i] == 0) continue;
                scrip.pass(slot, holder, HOLDERS, scrip.sharesOf(slot, holder));
            }
            for (int number = 0; number < papers.size; number++) {
                Paper paper = papers.get(number);
                if (paper != null && isEnded(paper, fallen)) papers.mark(number);
            }
            return fallen;
        }

        private static boolean isEnded(Paper paper, int fallen) {
            if (paper.kind == CALL || paper.kind == LOAN) return true;
            return paper.kind == SCHEME && (fallen >> HOLDERS + paper.slot & 1) != 0;
        }
    }

    /** Lines between towns, out of which sets are chosen, as bits by their places here. */
    static final class Lines {
        private final int[] numbers = new int[RELAYABLE];
        private final int[] ends = new int[RELAYABLE];
        private final int[] rivals = new int[RELAYABLE];
        private final int[] yards = new int[RELAYABLE];
        private final int[] coins = new int[RELAYABLE];
        private int gauges;
        int size;

        void clear() {
            size = 0;
            gauges = 0;
        }

        void add(int number, Paper bill, long bars, int yardsOfIt, int coinsOfIt) {
            if (size >= RELAYABLE) return;
            numbers[size] = number;
            ends[size] = 1 << bill.first | 1 << bill.second;
            yards[size] = yardsOfIt;
            coins[size] = coinsOfIt;
            rivals[size] = 0;
            for (int i = 0; i < size; i++) {
                if ((bars >> numbers[i] & 1) != 0) rivals[size] |= 1 << i;
            }
            gauges |= bill.gauge << size;
            size++;
        }

        private boolean join(int towns, int set) {
            int reached = towns & -towns;
            int before = 0;
            for (int round = 0; round < TOWNS && reached != before; round++) {
                before = reached;
                for (int i = 0; i < size; i++) {
                    if ((set >> i & 1) != 0 && (ends[i] & reached) != 0) reached |= ends[i];
                }
            }
            return (towns & ~reached) == 0;
        }

        int fewestRelaid(int towns) {
            int all = (1 << size) - 1;
            int best = NOWHERE;
            for (int set = 0; set <= all; set++) {
                if (best >= 0 && Integer.bitCount(set) >= Integer.bitCount(best)) continue;
                int broad = gauges ^ set;
                if (join(towns, broad) || join(towns, all & ~broad)) best = set;
            }
            return best;
        }

        /** The set of least coins that joins these towns within the yards and coins told, or NOWHERE. */
        int cheapest(int towns, int mostYards, int mostCoins) {
            int best = NOWHERE;
            for (int set = 0; set < 1 << size; set++) {
                if (coinsOf(set) > mostCoins || sumOf(yards, set) > mostYards) continue;
                if (best >= 0 && !isBetter(set, best)) continue;
                if (!isAtOdds(set) && join(towns, set)) best = set;
            }
            return best;
        }

        private boolean isBetter(int set, int best) {
            int more = coinsOf(set) - coinsOf(best);
            return more < 0 || (more == 0 && Integer.bitCount(set) < Integer.bitCount(best));
        }

        private boolean isAtOdds(int set) {
            for (int i = 0; i < size; i++) {
                if ((set >> i & 1) != 0 && (rivals[i] & set) != 0) return true;
            }
            return false;
        }

        int coinsOf(int set) {
            return sumOf(coins, set);
        }

        private int sumOf(int[] row, int set) {
            int sum = 0;
            for (int i = 0; i < size; i++) {
                if ((set >> i & 1) != 0) sum += row[i];
            }
            return sum;
        }
    }
}
