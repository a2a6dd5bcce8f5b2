import java.util.ArrayList;
import java.util.Arrays;
import java.util.HashMap;
import java.util.HashSet;
import java.util.List;
import java.util.Map;
import java.util.Set;

/**
 * The document a second time, written without a look at speed or at LANGUAGE.md, and wherever it can be in another
 * way than the class: searches try everything, the image is all calls up to it done again. FuzzTest holds the class
 * against it.
 */
final class Model {
    static final int NONE = -1, BAD = -2, STATE = -3, FULL = -4;

    static final class P {
        int kind, of = NONE, day, from = NONE, to = NONE, gauge = NONE, sum = NONE, cell = NONE, holder = NONE;
        boolean granted, settled, fallen;
        int latest = -5, coins;
        int[] held;
        List<Integer> way = new ArrayList<>();
        List<Integer> levels = new ArrayList<>();
        int torn = -5, left, done = -5;
        Set<Integer> bars = new HashSet<>();
    }

    static final class Row {
        int sort;
        int[] items;
    }

    static final class Stand {
        int scheme, holder, left, price;
        boolean ask;
    }

    record Ruling(String text, int day) { }

    record Way(int yards, List<Integer> cells) { }

    final int[] height = new int[80];
    final int[] ground = new int[80];
    final List<int[]> towns = new ArrayList<>();
    final int[] coins = new int[8];
    int men, today;
    String tape = "";
    final List<Ruling> orders = new ArrayList<>();
    final List<P> papers = new ArrayList<>();
    final List<int[]> votes = new ArrayList<>();
    final List<int[]> jobs = new ArrayList<>();
    final List<Stand> stands = new ArrayList<>();
    final List<Map<Integer, Integer>> past = new ArrayList<>();
    final Row[] sheets = new Row[4];

    int call(String name, long[] a) {
        int p = a.length > 0 ? (int) a[0] : 0;
        int q = a.length > 1 ? (int) a[1] : 0;
        int r = a.length > 2 ? (int) a[2] : 0;
        int s = a.length > 3 ? (int) a[3] : 0;
        switch (name) {
            case "land": return land(p, q, r);
            case "town": return town(p, q);
            case "coin": return coin(p, q);
            case "man": return man(p);
            case "feed": return feed(a[0], q);
            case "text": return text(p);
            case "force": return force(p, q);
            case "why": return why(p, q);
            case "scheme": return scheme(p, q, r, s);
            case "chain": return chain(p, q, r);
            case "way": return way(p, q);
            case "level": return level(p, q);
            case "close": return close(p, q, r);
            case "quarrel": return quarrel(p, q);
            case "slope": return slope(p, q, r, s);
            case "claim": return claim(p, q);
            case "bill": return bill(p);
            case "hear": return hear(p, q);
            case "bar": return bar(p, q);
            case "grant": return grant(p);
            case "cast": return cast(p, q);
            case "about": return about(p, q);
            case "board": return board(p, q, r != 0);
            case "doubled": return doubled();
            case "hand": return hand(p, q);
            case "midnight": return midnight(p, q);
            case "scrip": return scrip(p, q, r);
            case "held": return held(p, q);
            case "purse": return purse(p, q);
            case "ask": return ask(p, q, r, s, a[4] != 0);
            case "price": return price(p);
            case "read": return is(p, 1) ? papers.get(p).latest : NONE;
            case "call": return call(p, q);
            case "lend": return lend(p, q, r);
            case "settle": return settle();
            case "along": return along(p, q);
            case "dig": return dig(p);
            case "last": return last(p, q);
            case "meet": return meet();
            case "gauge": return gauge(p);
            case "plan": return plan(p, q, r, s);
            case "tried": return tried(p);
            case "known": return known(p, q);
            case "count": return count(p);
            case "sheet": return sheet(p, q, r);
            case "item": return item(p, q, r);
            case "copy": return copy(p, q, r, s, (int) a[4]);
            default: throw new IllegalArgumentException(name);
        }
    }

    private static boolean in(long n, long least, long most) {
        return least <= n && n <= most;
    }

    private boolean is(int paper, int kind) {
        return in(paper, 0, papers.size() - 1) && papers.get(paper).kind == kind;
    }

    private List<Integer> all(int kind) {
        List<Integer> found = new ArrayList<>();
        for (int i = 0; i < papers.size(); i++) if (papers.get(i).kind == kind) found.add(i);
        return found;
    }

    private boolean isTown(int t) {
        return in(t, 0, towns.size() - 1);
    }

    // ---- the land

    private int land(int cell, int what, int n) {
        if (!in(cell, 0, 79) || !in(what, 0, 1)) return NONE;
        if (what == 0 ? !in(n, 0, 99) : !in(n, 0, 2)) return BAD;
        int[] of = what == 0 ? height : ground;
        int was = of[cell];
        of[cell] = n;
        return was;
    }

    private int town(int cell, int trade) {
        if (!in(cell, 0, 79)) return NONE;
        if (!in(trade, 0, 99)) return BAD;
        for (int[] t : towns) if (t[0] == cell) return STATE;
        if (towns.size() == 6) return FULL;
        towns.add(new int[] {cell, trade});
        return towns.size() - 1;
    }

    private int coin(int holder, int n) {
        if (!in(holder, 0, 7)) return NONE;
        if (!in(n, 0, 99999)) return BAD;
        int was = coins[holder];
        coins[holder] = n;
        return was;
    }

    private int man(int n) {
        if (!in(n, 0, 99)) return BAD;
        int was = men;
        men = n;
        return was;
    }

    // ---- orders

    private int feed(long w, int n) {
        if (!in(n, 1, 8)) return BAD;
        if (tape.length() + n > 140) return FULL;
        String came = "";
        for (int i = 0; i < n; i++) came = (char) (w >>> 8 * i & 255) + came;
        tape += came;
        return tape.length();
    }

    private int text(int day) {
        if (!in(day, 0, 999)) return BAD;
        if (orders.size() == 8) return FULL;
        int fault = fault(tape);
        if (fault < 0) orders.add(new Ruling(tape, day));
        tape = "";
        return fault < 0 ? orders.size() - 1 : -10 - fault;
    }

    /** All that may still come, as sentential forms: a capital is a sort of thing, behind it how many are open. */
    static int fault(String text) {
        Set<String> forms = new HashSet<>(Set.of("O8"));
        for (int at = 0; at < text.length(); at++) {
            Set<String> next = new HashSet<>();
            for (String form : forms) take(form, text.charAt(at), next);
            if (next.isEmpty()) return at;
            forms = next;
        }
        for (String form : forms) if (canEnd(form)) return -1;
        return text.length();
    }

    private static void take(String form, char c, Set<String> next) {
        if (form.isEmpty()) return;
        char top = form.charAt(0);
        if (top < 'A' || top > 'Z') {
            if (top == c) next.add(form.substring(1));
            return;
        }
        int n = form.charAt(1) - '0';
        for (String made : made(top, n)) take(made + form.substring(2), c, next);
    }

    private static List<String> made(char sort, int n) {
        List<String> ways = new ArrayList<>();
        switch (sort) {
            case 'O':
                for (String clause : new String[] {"slope N0", "close N0", "stroke N0", "call N0", "gap N0", "park y",
                    "park n", "let E0"}) {
                    ways.add(clause + "X" + (n - 1));
                }
                break;
            case 'X':
                ways.add("");
                if (n > 0) ways.add(";O" + n);
                break;
            case 'N':
                ways.add("0");
                for (char d = '1'; d <= '9'; d++) ways.add(d + "D2");
                break;
            case 'D':
                ways.add("");
                for (char d = '0'; d <= '9' && n > 0; d++) ways.add(d + "D" + (n - 1));
                break;
            case 'E': ways.add("T" + n + "S" + n); break;
            case 'S':
                ways.add("");
                ways.add("|E" + n);
                break;
            case 'T': ways.add("F" + n + "U" + n); break;
            case 'U':
                ways.add("");
                ways.add("&T" + n);
                break;
            default:
                if (n < 5) ways.add("!F" + (n + 1));
                if (n < 5) ways.add("(E" + (n + 1) + ")");
                for (char letter : "ytwrc".toCharArray()) {
                    ways.add(letter + "<N0");
                    ways.add(letter + ">N0");
                }
                ways.add("g=0");
                ways.add("g=1");
        }
        return ways;
    }

    private static boolean canEnd(String form) {
        for (int i = 0; i < form.length(); i += 2) if ("XDSU".indexOf(form.charAt(i)) < 0) return false;
        return true;
    }

    private static final String[] WORDS = {"slope", "close", "stroke", "call", "gap", "park", "let"};

    /** Order, clause, or null. */
    private int[] ruling(int word, int day) {
        int[] found = null;
        int since = -1;
        for (int o = 0; o < orders.size(); o++) {
            Ruling order = orders.get(o);
            if (order.day > day || order.day < since) continue;
            String[] clauses = order.text.split(";");
            for (int c = 0; c < clauses.length; c++) {
                if (clauses[c].startsWith(WORDS[word] + " ")) {
                    found = new int[] {o, c};
                    since = order.day;
                }
            }
        }
        return found;
    }

    private String told(int word, int day) {
        int[] found = ruling(word, day);
        return found == null ? null : orders.get(found[0]).text.split(";")[found[1]].split(" ")[1];
    }

    private int rule(int word, int day) {
        String told = told(word, day);
        if (told == null) return new int[] {99, 2, 999, 50, 10, 1, 0}[word];
        if (word == 6) return 1;
        if (word == 5) return told.equals("y") ? 1 : 0;
        return Integer.parseInt(told);
    }

    private int force(int word, int day) {
        if (!in(word, 0, 6)) return NONE;
        return in(day, 0, 999) ? rule(word, day) : BAD;
    }

    private int why(int word, int day) {
        if (!in(word, 0, 6)) return NONE;
        if (!in(day, 0, 999)) return BAD;
        int[] found = ruling(word, day);
        return found == null ? -5 : 100 * found[0] + found[1];
    }

    /** The last place of a sign that stands in no brackets, or -1. */
    private static int loose(String e, char sign) {
        int deep = 0;
        int found = -1;
        for (int i = 0; i < e.length(); i++) {
            if (e.charAt(i) == '(') deep++;
            if (e.charAt(i) == ')') deep--;
            if (e.charAt(i) == sign && deep == 0) found = i;
        }
        return found;
    }

    private static boolean holds(String e, Map<Character, Integer> facts) {
        int at = loose(e, '|');
        if (at >= 0) return holds(e.substring(0, at), facts) | holds(e.substring(at + 1), facts);
        at = loose(e, '&');
        if (at >= 0) return holds(e.substring(0, at), facts) & holds(e.substring(at + 1), facts);
        if (e.charAt(0) == '!') return !holds(e.substring(1), facts);
        if (e.charAt(0) == '(') return holds(e.substring(1, e.length() - 1), facts);
        int fact = facts.get(e.charAt(0));
        int n = Integer.parseInt(e.substring(2));
        return e.charAt(1) == '<' ? fact < n : e.charAt(1) == '>' ? fact > n : fact == n;
    }

    // ---- papers

    private P paper(int kind, int of) {
        P p = new P();
        p.kind = kind;
        p.of = of;
        p.day = today;
        return p;
    }

    private int file(P p) {
        papers.add(p);
        return papers.size() - 1;
    }

    private int scheme(int from, int to, int gauge, int shares) {
        if (!isTown(from) || !isTown(to)) return NONE;
        if (from == to || !in(gauge, 0, 1) || !in(shares, 1, 99)) return BAD;
        if (papers.size() == 60 || all(1).size() == 12) return FULL;
        P p = paper(1, NONE);
        p.from = from;
        p.to = to;
        p.gauge = gauge;
        p.sum = shares;
        p.held = new int[9];
        p.held[8] = shares;
        return file(p);
    }

    private static boolean beside(int a, int b) {
        return Math.abs(a % 10 - b % 10) + Math.abs(a / 10 - b / 10) == 1;
    }

    private int chain(int scheme, int cells, int rises) {
        if (!is(scheme, 1) || !in(cells, 0, 3) || !in(rises, 0, 3)) return NONE;
        Row row = sheets[cells];
        if (row == null) return -11;
        if (row.sort != 0) return -13;
        if (papers.size() == 60) return FULL;
        P s = papers.get(scheme);
        P p = paper(2, scheme);
        p.from = s.from;
        p.to = s.to;
        p.gauge = s.gauge;
        int goal = towns.get(s.to)[0];
        for (int c : row.items) {
            if (p.way.contains(goal)) break;
            boolean first = p.way.isEmpty();
            if (first && c != towns.get(s.from)[0]) break;
            if (!in(c, 0, 79) || p.way.contains(c)) break;
            if (!first && !beside(p.way.get(p.way.size() - 1), c)) break;
            p.way.add(c);
        }
        if (!p.way.contains(goal)) p.torn = p.way.size();
        tellLevels(p, sheets[rises]);
        return file(p);
    }

    private void tellLevels(P p, Row rises) {
        Integer at = null;
        for (int i = 0; i < p.way.size(); i++) {
            int here = height[p.way.get(i)];
            if (i == 0) {
                at = here;
            } else if (at != null && rises != null && rises.sort == 2 && i - 1 < rises.items.length) {
                int rise = rises.items[i - 1];
                if (rise == 1000000) rise = here - height[p.way.get(i - 1)];
                else if (rise > 10000) rise = 10000;
                else if (rise < -10000) rise = -10000;
                at += rise;
            } else {
                at = null;
            }
            p.levels.add(at);
        }
    }

    private int step(int a, int b) {
        return 10 + 3 * Math.abs(height[a] - height[b]) + (ground[b] == 1 ? 20 : 0) + (ground[b] == 2 ? 5 : 0);
    }

    private int yards(List<Integer> way) {
        int sum = 0;
        for (int i = 1; i < way.size(); i++) sum += step(way.get(i - 1), way.get(i));
        return sum;
    }

    private int way(int plan, int what) {
        if (!is(plan, 2)) return NONE;
        P p = papers.get(plan);
        if (what == 0) return p.way.size();
        if (what == 1) return p.torn;
        if (what == 2) return yards(p.way);
        return what >= 10 && what < 10 + p.way.size() ? p.way.get(what - 10) : NONE;
    }

    private int level(int plan, int i) {
        if (!is(plan, 2) || !in(i, 0, papers.get(plan).way.size() - 1)) return NONE;
        Integer level = papers.get(plan).levels.get(i);
        return level == null ? -1000000 : level;
    }

    private int notClose(P p, int day) {
        for (int i = 0; i < p.way.size(); i++) {
            Integer level = p.levels.get(i);
            if (level == null || Math.abs(level - height[p.way.get(i)]) > rule(1, day)) return i;
        }
        return -5;
    }

    private int steep(P p, int day) {
        for (int i = 1; i < p.way.size(); i++) {
            if (Math.abs(height[p.way.get(i)] - height[p.way.get(i - 1)]) > rule(0, day)) return i;
        }
        return -5;
    }

    private int close(int plan, int what, int day) {
        if (!is(plan, 2) || !in(what, 0, 1)) return NONE;
        if (!in(day, 0, 999)) return BAD;
        return what == 0 ? notClose(papers.get(plan), day) : steep(papers.get(plan), day);
    }

    private int quarrel(int a, int b) {
        if (!is(a, 2) || !is(b, 2)) return NONE;
        if (a == b) return BAD;
        P p = papers.get(a);
        P q = papers.get(b);
        for (int i = 0; i < p.way.size(); i++) {
            int j = q.way.indexOf(p.way.get(i));
            if (j < 0 || p.levels.get(i) == null || q.levels.get(j) == null) continue;
            if (!p.levels.get(i).equals(q.levels.get(j))) return p.way.get(i);
        }
        return -5;
    }

    private static boolean less(List<Integer> a, List<Integer> b) {
        for (int i = 0; i < a.size() && i < b.size(); i++) {
            if (!a.get(i).equals(b.get(i))) return a.get(i) < b.get(i);
        }
        return a.size() < b.size();
    }

    private Way leastWay(int a, int b, int day) {
        int from = towns.get(a)[0];
        int to = towns.get(b)[0];
        Way[] best = new Way[80];
        best[from] = new Way(0, List.of(from));
        boolean changed = true;
        while (changed) {
            changed = false;
            for (int u = 0; u < 80; u++) {
                for (int v = 0; v < 80; v++) {
                    if (best[u] == null || !beside(u, v) || best[u].cells.contains(v)) continue;
                    if (Math.abs(height[u] - height[v]) > rule(0, day)) continue;
                    if (rule(5, day) == 0 && ground[v] == 2 && v != from && v != to) continue;
                    List<Integer> cells = new ArrayList<>(best[u].cells);
                    cells.add(v);
                    Way made = new Way(best[u].yards + step(u, v), cells);
                    if (best[v] == null || made.yards < best[v].yards
                        || made.yards == best[v].yards && less(cells, best[v].cells)) {
                        best[v] = made;
                        changed = true;
                    }
                }
            }
        }
        return best[to];
    }

    private int slope(int a, int b, int day, int what) {
        if (!isTown(a) || !isTown(b) || what < 0 || in(what, 2, 9)) return NONE;
        if (a == b || !in(day, 0, 999)) return BAD;
        Way w = leastWay(a, b, day);
        if (w == null) return -5;
        if (what == 0) return w.yards;
        if (what == 1) return w.cells.size();
        return what - 10 < w.cells.size() ? w.cells.get(what - 10) : NONE;
    }

    private int claim(int cell, int n) {
        if (!in(cell, 0, 79)) return NONE;
        if (!in(n, 1, 9999)) return BAD;
        if (papers.size() == 60) return FULL;
        P p = paper(6, NONE);
        p.cell = cell;
        p.sum = n;
        return file(p);
    }

    private boolean sound(P p) {
        return notClose(p, today) == -5 && steep(p, today) == -5;
    }

    private int bill(int plan) {
        if (!is(plan, 2)) return NONE;
        P p = papers.get(plan);
        if (p.torn != -5 || !sound(p) || today > rule(2, today)) return STATE;
        for (int b : all(3)) if (papers.get(b).of == plan) return STATE;
        if (papers.size() == 60) return FULL;
        P made = paper(3, plan);
        made.from = p.from;
        made.to = p.to;
        made.gauge = p.gauge;
        made.way = p.way;
        return file(made);
    }

    private int claims(List<Integer> way) {
        int sum = 0;
        for (int c : all(6)) if (way.contains(papers.get(c).cell)) sum += papers.get(c).sum;
        return sum;
    }

    private int grounds(List<Integer> way, int what) {
        int n = 0;
        for (int c : way) if (ground[c] == what) n++;
        return n;
    }

    private boolean lets(P bill, int day) {
        String e = told(6, day);
        if (e == null) return true;
        Map<Character, Integer> facts = new HashMap<>();
        facts.put('y', yards(bill.way) / 10);
        facts.put('t', towns.get(bill.from)[1] + towns.get(bill.to)[1]);
        facts.put('w', grounds(bill.way, 2));
        facts.put('r', grounds(bill.way, 1));
        facts.put('c', claims(bill.way));
        facts.put('g', bill.gauge);
        return holds(e, facts);
    }

    private int hear(int bill, int day) {
        if (!is(bill, 3)) return NONE;
        if (!in(day, 0, 999)) return BAD;
        return lets(papers.get(bill), day) ? 1 : 0;
    }

    private int bar(int a, int b) {
        if (!is(a, 3) || !is(b, 3)) return NONE;
        if (a == b) return BAD;
        papers.get(b).bars.add(a);
        return papers.get(a).bars.add(b) ? 1 : 0;
    }

    private List<Integer> granted() {
        List<Integer> found = new ArrayList<>();
        for (int b : all(3)) if (papers.get(b).granted) found.add(b);
        return found;
    }

    private int grant(int bill) {
        if (!is(bill, 3)) return NONE;
        P p = papers.get(bill);
        if (p.granted || !lets(p, today)) return STATE;
        for (int b : granted()) if (p.bars.contains(b)) return STATE;
        p.granted = true;
        p.left = yards(p.way);
        return granted().size();
    }

    private int worth(P p) {
        switch (p.kind) {
            case 1: return 10 + p.sum;
            case 2: return worth(papers.get(p.of)) + p.way.size();
            case 3: return 2 * worth(papers.get(p.of));
            case 4: return 1 + 3 + p.sum;
            case 5: return 2 * (1 + 3 + p.sum) - 1;
            case 6: return 1 + p.sum;
            default: return 1;
        }
    }

    private int cast(int paper, int k) {
        if (!in(paper, 0, papers.size() - 1) || !in(k, 0, 6)) return NONE;
        P p = papers.get(paper);
        boolean fits = k == 0 || k == p.kind || k == 1 && (p.kind == 2 || p.kind == 3) || k == 4 && p.kind == 5;
        return fits ? worth(p) : -13;
    }

    private int about(int paper, int what) {
        if (!in(paper, 0, papers.size() - 1)) return NONE;
        P p = papers.get(paper);
        switch (what) {
            case 0: return p.kind;
            case 1: return p.of;
            case 2: return p.day;
            case 3: return p.kind <= 3 ? p.from : p.kind == 6 ? p.cell : p.kind == 5 ? p.holder : NONE;
            case 4: return p.to;
            case 5: return p.gauge;
            case 6: return p.sum;
            case 7: return p.granted || p.settled || p.fallen ? 1 : 0;
            default: return NONE;
        }
    }

    // ---- votes, jobs

    private int board(int holder, int bill, boolean yes) {
        if (!in(holder, 0, 7) || !is(bill, 3)) return NONE;
        if (votes.size() == 60) return FULL;
        votes.add(new int[] {holder, bill, yes ? 1 : 0});
        return votes.size();
    }

    private int doubled() {
        int bits = 0;
        for (int[] v : votes) {
            for (int[] w : votes) if (v[0] == w[0] && v[1] == w[1] && v[2] != w[2]) bits |= 1 << v[0];
        }
        return bits;
    }

    private int hand(int survey, int press) {
        if (!in(survey, 1, 30) || !in(press, 1, 30)) return BAD;
        if (jobs.size() == 7) return FULL;
        jobs.add(new int[] {survey, press});
        return jobs.size();
    }

    private List<Integer> longest(List<Integer> begun, int a, int b, int h) {
        List<Integer> best = begun;
        for (int j = 0; j < jobs.size(); j++) {
            if (begun.contains(j)) continue;
            int surveyed = a + jobs.get(j)[0];
            int printed = Math.max(surveyed, b) + jobs.get(j)[1];
            if (printed > h) continue;
            List<Integer> more = new ArrayList<>(begun);
            more.add(j);
            List<Integer> found = longest(more, surveyed, printed, h);
            if (found.size() > best.size()) best = found;
        }
        return best;
    }

    private int midnight(int h, int i) {
        if (i < -1) return NONE;
        if (!in(h, 1, 999)) return BAD;
        List<Integer> row = longest(List.of(), 0, 0, h);
        return i == -1 ? row.size() : i < row.size() ? row.get(i) : NONE;
    }

    // ---- scrip

    private int scrip(int scheme, int holder, int n) {
        if (!is(scheme, 1) || !in(holder, 0, 7)) return NONE;
        if (!in(n, 1, 99)) return BAD;
        P p = papers.get(scheme);
        if (p.held[8] < n || p.fallen) return STATE;
        p.held[8] -= n;
        return p.held[holder] += n;
    }

    private int held(int scheme, int holder) {
        return is(scheme, 1) && in(holder, 0, 8) ? papers.get(scheme).held[holder] : NONE;
    }

    private int purse(int what, int which) {
        if (what == 0 && in(which, 0, 7)) return coins[which];
        return what == 1 && is(which, 1) ? papers.get(which).coins : NONE;
    }

    private int ask(int scheme, int holder, int n, int price, boolean ask) {
        if (!is(scheme, 1) || !in(holder, 0, 7)) return NONE;
        if (!in(n, 1, 99) || !in(price, 1, 999)) return BAD;
        if (stands.size() == 40) return FULL;
        Stand s = new Stand();
        s.scheme = scheme;
        s.holder = holder;
        s.left = n;
        s.price = price;
        s.ask = ask;
        stands.add(s);
        return stands.size();
    }

    private int price(int scheme) {
        if (!is(scheme, 1)) return NONE;
        P p = papers.get(scheme);
        List<Stand> offers = new ArrayList<>();
        List<Stand> wishes = new ArrayList<>();
        for (Stand s : stands) if (s.scheme == scheme) (s.ask ? wishes : offers).add(s);
        offers.sort((a, b) -> a.price - b.price);
        wishes.sort((a, b) -> b.price - a.price);
        int went = 0;
        while (!offers.isEmpty() && !wishes.isEmpty() && wishes.get(0).price >= offers.get(0).price) {
            Stand o = offers.get(0);
            Stand w = wishes.get(0);
            int n = Math.min(Math.min(o.left, w.left), Math.min(p.held[o.holder], coins[w.holder] / o.price));
            if (n == 0) {
                if (p.held[o.holder] == 0) offers.remove(0); else wishes.remove(0);
                continue;
            }
            p.held[o.holder] -= n;
            p.held[w.holder] += n;
            coins[w.holder] -= n * o.price;
            coins[o.holder] += n * o.price;
            o.left -= n;
            w.left -= n;
            p.latest = o.price;
            went += n;
            if (o.left == 0) offers.remove(0);
            if (w.left == 0) wishes.remove(0);
        }
        stands.removeIf(s -> s.scheme == scheme);
        return went;
    }

    private int call(int scheme, int pence) {
        if (!is(scheme, 1)) return NONE;
        if (!in(pence, 1, rule(3, today))) return BAD;
        if (papers.get(scheme).fallen) return STATE;
        for (int c : all(4)) {
            if (papers.get(c).of == scheme && papers.get(c).day + rule(4, today) > today) return STATE;
        }
        if (papers.size() == 60) return FULL;
        P p = paper(4, scheme);
        p.sum = pence;
        return file(p);
    }

    private int lend(int scheme, int holder, int n) {
        if (!is(scheme, 1) || !in(holder, 0, 7)) return NONE;
        if (!in(n, 1, 9999)) return BAD;
        if (papers.get(scheme).fallen || coins[holder] < n) return STATE;
        if (papers.size() == 60) return FULL;
        coins[holder] -= n;
        papers.get(scheme).coins += n;
        P p = paper(5, scheme);
        p.holder = holder;
        p.sum = n;
        return file(p);
    }

    /** Who owes whom how much; a holder is its number, a scheme 100 and its paper. */
    private Map<Integer, Map<Integer, Integer>> debts() {
        Map<Integer, Map<Integer, Integer>> owe = new HashMap<>();
        for (P p : papers) {
            if (p.settled) continue;
            if (p.kind == 5) owe.computeIfAbsent(100 + p.of, k -> new HashMap<>()).merge(p.holder, p.sum, Integer::sum);
            for (int h = 0; h < 8 && p.kind == 4; h++) {
                int due = p.sum * papers.get(p.of).held[h];
                if (due > 0) owe.computeIfAbsent(h, k -> new HashMap<>()).merge(100 + p.of, due, Integer::sum);
            }
        }
        return owe;
    }

    private static int total(Map<Integer, Integer> row) {
        int sum = 0;
        if (row != null) for (int n : row.values()) sum += n;
        return sum;
    }

    private int has(int party) {
        return party < 100 ? coins[party] : papers.get(party - 100).coins;
    }

    private static int income(Map<Integer, Map<Integer, Integer>> paid, int party) {
        int sum = 0;
        for (Map<Integer, Integer> row : paid.values()) sum += row.getOrDefault(party, 0);
        return sum;
    }

    private Map<Integer, Map<Integer, Integer>> payments(Map<Integer, Map<Integer, Integer>> owe) {
        Map<Integer, Map<Integer, Integer>> paid = new HashMap<>();
        for (int round = 1; round <= 300; round++) {
            Map<Integer, Map<Integer, Integer>> next = new HashMap<>();
            for (int x : owe.keySet()) {
                int all = total(owe.get(x));
                long can = Math.min(all, has(x) + income(paid, x));
                Map<Integer, Integer> row = new HashMap<>();
                for (int y : owe.get(x).keySet()) row.put(y, (int) (can * owe.get(x).get(y) / all));
                next.put(x, row);
            }
            if (next.equals(paid)) break;
            paid = next;
        }
        return paid;
    }

    private int settle() {
        Map<Integer, Map<Integer, Integer>> owe = debts();
        Map<Integer, Map<Integer, Integer>> paid = payments(owe);
        List<Integer> schemes = all(1);
        int bits = 0;
        for (int x : paid.keySet()) {
            for (int y : paid.get(x).keySet()) {
                int n = paid.get(x).get(y);
                if (x < 100) coins[x] -= n; else papers.get(x - 100).coins -= n;
                if (y < 100) coins[y] += n; else papers.get(y - 100).coins += n;
            }
            if (total(paid.get(x)) == total(owe.get(x))) continue;
            bits |= x < 100 ? 1 << x : 1 << 8 + schemes.indexOf(x - 100);
            if (x >= 100) {
                papers.get(x - 100).fallen = true;
                continue;
            }
            for (int y : owe.get(x).keySet()) {
                int[] held = papers.get(y - 100).held;
                held[8] += held[x];
                held[x] = 0;
            }
        }
        for (P p : papers) if (p.kind == 4 || p.kind == 5) p.settled = true;
        return bits;
    }

    private int along(int what, int which) {
        if (purse(what, which) == NONE) return NONE;
        return total(payments(debts()).get(what == 0 ? which : 100 + which));
    }

    // ---- digging, gauges

    private int dig(int n) {
        if (!in(n, 1, 50) || today + n > 999) return BAD;
        for (int i = 0; i < n; i++) {
            int able = 3 * men;
            for (int b : granted()) {
                P p = papers.get(b);
                P s = papers.get(papers.get(p.of).of);
                while (able > 0 && p.left > 0 && s.coins >= 2 && !s.fallen) {
                    able--;
                    s.coins -= 2;
                    p.left--;
                    if (p.left == 0) p.done = today;
                }
            }
            Map<Integer, Integer> row = new HashMap<>();
            for (int s : all(1)) row.put(s, papers.get(s).coins);
            for (int b : granted()) row.put(b, papers.get(b).left);
            past.add(row);
            today++;
        }
        return today;
    }

    private int last(int bill, int what) {
        if (!is(bill, 3) || !in(what, 0, 1)) return NONE;
        P p = papers.get(bill);
        return !p.granted ? STATE : what == 0 ? p.left : p.done;
    }

    private int meet() {
        int bits = 0;
        for (int t = 0; t < towns.size(); t++) {
            Set<Integer> gauges = new HashSet<>();
            for (int b : all(3)) {
                P p = papers.get(b);
                if (p.done != -5 && (p.from == t || p.to == t)) gauges.add(p.gauge);
            }
            if (gauges.size() == 2) bits |= 1 << t;
        }
        return bits;
    }

    private boolean joined(int bits, List<Integer> bills) {
        int[] root = {0, 1, 2, 3, 4, 5};
        for (int b : bills) {
            int from = root[papers.get(b).from];
            int to = root[papers.get(b).to];
            for (int t = 0; t < 6; t++) if (root[t] == from) root[t] = to;
        }
        Set<Integer> roots = new HashSet<>();
        for (int t = 0; t < 6; t++) if ((bits >> t & 1) == 1) roots.add(root[t]);
        return roots.size() <= 1;
    }

    private int gauge(int bits) {
        if (!in(bits, 0, (1 << towns.size()) - 1)) return BAD;
        List<Integer> lines = granted();
        if (lines.size() > 10) return -9;
        int best = -5;
        for (int set = 0; set < 1 << lines.size(); set++) {
            for (int g = 0; g < 2; g++) {
                List<Integer> like = new ArrayList<>();
                for (int i = 0; i < lines.size(); i++) {
                    int is = papers.get(lines.get(i)).gauge;
                    if ((set >> i & 1) == 1) is = 1 - is;
                    if (is == g) like.add(lines.get(i));
                }
                if (!joined(bits, like)) continue;
                if (best == -5 || Integer.bitCount(set) < Integer.bitCount(best)) best = set;
            }
        }
        return best;
    }

    private int plan(int bits, int yards, int most, int what) {
        if (!in(what, 0, 1)) return NONE;
        if (!in(bits, 0, (1 << towns.size()) - 1) || !in(yards, 0, 99999) || !in(most, 0, 999999)) return BAD;
        List<Integer> lines = new ArrayList<>();
        for (int b : all(3)) {
            if (!papers.get(b).granted && lets(papers.get(b), today) && lines.size() < 8) lines.add(b);
        }
        int[] best = null;
        for (int set = 0; set < 1 << lines.size(); set++) {
            List<Integer> chosen = new ArrayList<>();
            for (int i = 0; i < lines.size(); i++) if ((set >> i & 1) == 1) chosen.add(lines.get(i));
            int long_ = 0;
            int cost = 0;
            boolean good = joined(bits, chosen);
            for (int b : chosen) {
                P p = papers.get(b);
                long_ += yards(p.way);
                cost += 2 * yards(p.way) + claims(p.way);
                for (int other : chosen) if (p.bars.contains(other)) good = false;
            }
            if (!good || long_ > yards || cost > most) continue;
            int[] made = {cost, chosen.size(), set};
            if (best == null || Arrays.compare(made, best) < 0) best = made;
        }
        return best == null ? -5 : what == 0 ? best[2] : best[0];
    }

    private int tried(int what) {
        if (!in(what, 0, 2)) return NONE;
        String text = tape;
        tape = "";
        int fault = fault(text);
        if (fault >= 0) return -10 - fault;
        orders.add(new Ruling(text, today));
        int found = 0;
        if (what == 0) for (int p : all(2)) if (sound(papers.get(p))) found++;
        if (what == 1) for (int b : all(3)) if (lets(papers.get(b), today)) found++;
        if (what == 2) {
            Way w = towns.size() < 2 ? null : leastWay(0, 1, today);
            found = w == null ? -5 : w.yards;
        }
        orders.remove(orders.size() - 1);
        return found;
    }

    // ---- what was known

    private int known(int paper, int day) {
        if (!in(day, 0, today - 1)) return NONE;
        return past.get(day).getOrDefault(paper, NONE);
    }

    private int count(int what) {
        switch (what) {
            case 0: return towns.size();
            case 1: return papers.size();
            case 2: return orders.size();
            case 3: return today;
            case 4: return tape.length();
            case 5: return men;
            case 6: return granted().size();
            case 7:
                int done = 0;
                for (int b : all(3)) if (papers.get(b).done != -5) done++;
                return done;
            case 8: return jobs.size();
            case 9: return stands.size();
            case 10: return votes.size();
            default: return NONE;
        }
    }

    // ---- the host

    private int sheet(int sheet, int sort, int n) {
        if (!in(sheet, 0, 3)) return NONE;
        if (!in(sort, -1, 2)) return BAD;
        if (sort == -1) {
            sheets[sheet] = null;
            return 1;
        }
        if (n > 40) return BAD;
        if (n < 0) return -14;
        Row row = new Row();
        row.sort = sort;
        row.items = new int[n];
        sheets[sheet] = row;
        return 1;
    }

    private int item(int sheet, int i, int v) {
        if (!in(sheet, 0, 3)) return NONE;
        Row row = sheets[sheet];
        if (row == null) return -11;
        if (!in(i, 0, row.items.length - 1)) return -12;
        row.items[i] = row.sort == 0 ? (byte) v : row.sort == 1 ? (short) v : v;
        return 1;
    }

    private int copy(int sheet, int i, int other, int j, int n) {
        if (!in(sheet, 0, 3) || !in(other, 0, 3)) return NONE;
        Row from = sheets[sheet];
        Row to = sheets[other];
        if (from == null || to == null) return -11;
        if (from.sort != to.sort) return -13;
        if (n < 0 || i < 0 || j < 0) return -12;
        if ((long) i + n > from.items.length || (long) j + n > to.items.length) return -12;
        int[] as = from.items.clone();
        for (int k = 0; k < n; k++) to.items[j + k] = as[i + k];
        return n;
    }
}
