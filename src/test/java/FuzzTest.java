import java.lang.reflect.Method;
import java.util.ArrayDeque;
import java.util.ArrayList;
import java.util.Deque;
import java.util.HashMap;
import java.util.List;
import java.util.Map;
import java.util.Random;

/** Runs of calls, likely ones and wild ones, put to the class and to the model: each answer must be the same. */
public final class FuzzTest {
    record Call(String name, long[] args) { }

    private static final Map<String, Method> METHODS = new HashMap<>();
    private static final String[] NAMES;

    static {
        for (Method m : LinesPromised.class.getDeclaredMethods()) {
            if (java.lang.reflect.Modifier.isPublic(m.getModifiers())) METHODS.put(m.getName(), m);
        }
        NAMES = METHODS.keySet().stream().sorted().toArray(String[]::new);
    }

    private final Random random;
    private final LinesPromised x = new LinesPromised();
    private Model model = new Model();
    private List<Call> done = new ArrayList<>();
    private List<Call> atImage;
    private final Deque<Call> coming = new ArrayDeque<>();
    private final int hills;
    private final int flavour;
    private final int wide;
    private int stage;

    private FuzzTest(long seed) {
        random = new Random(seed);
        hills = 1 + random.nextInt(6);
        flavour = random.nextInt(6);
        wide = 2 + random.nextInt(random.nextBoolean() ? 3 : 7);
    }

    public static void main(String[] args) throws Exception {
        int runs = args.length > 0 ? Integer.parseInt(args[0]) : 600;
        int from = args.length > 1 ? Integer.parseInt(args[1]) : 0;
        Map<String, int[]> seen = new HashMap<>();
        for (int seed = from; seed < from + runs; seed++) {
            if (!new FuzzTest(seed).run(seed, seen)) break;
        }
        for (String name : NAMES) {
            int[] n = seen.getOrDefault(name, new int[2]);
            if (args.length > 0) System.out.println(name + " " + n[0] + " of them not refused " + n[1]);
            if (runs >= 600) Check.holds(name + " is called and not always refused", n[1] > 0);
        }
        Check.end();
    }

    private boolean run(int seed, Map<String, int[]> seen) throws Exception {
        begin();
        for (int i = 0; i < 512; i++) {
            while (coming.isEmpty()) next();
            Call c = coming.poll();
            long want = ask(c);
            long got = answer(c);
            int[] n = seen.computeIfAbsent(c.name, k -> new int[2]);
            n[0]++;
            if (want >= 0) n[1]++;
            String what = "seed " + seed + " call " + i + ": " + c.name + java.util.Arrays.toString(c.args);
            Check.due(what, got, want);
            if (got != want) return false;
        }
        return true;
    }

    private long answer(Call c) throws Exception {
        Method m = METHODS.get(c.name);
        Class<?>[] types = m.getParameterTypes();
        Object[] args = new Object[types.length];
        for (int i = 0; i < types.length; i++) {
            if (types[i] == boolean.class) args[i] = c.args[i] != 0;
            else if (types[i] == long.class) args[i] = c.args[i];
            else args[i] = (int) c.args[i];
        }
        return (Integer) m.invoke(x, args);
    }

    private long ask(Call c) {
        if (c.name.equals("image")) {
            atImage = new ArrayList<>(done);
            return model.today;
        }
        if (c.name.equals("undo")) {
            if (atImage == null) return -3;
            model = new Model();
            done = new ArrayList<>(atImage);
            for (Call again : done) model.call(again.name, again.args);
            return model.today;
        }
        if (changes(c.name)) done.add(c);
        return model.call(c.name, c.args);
    }

    private static boolean changes(String name) {
        return !List.of("slope", "midnight", "gauge", "plan", "along", "hear", "close", "about", "known", "way",
            "force", "why", "level", "quarrel", "cast", "doubled", "held", "purse", "read", "last", "meet", "count")
            .contains(name);
    }

    // ---- likely calls

    private int r(int n) {
        return random.nextInt(n);
    }

    private void put(String name, long... args) {
        coming.add(new Call(name, args));
    }

    /** A cell of a corner of the land, so that ways are short. */
    private int cell() {
        return 10 * r(Math.min(8, wide)) + r(wide);
    }

    private void begin() {
        for (int i = 0; i < 4 + r(20); i++) put("land", cell(), 0, r(hills));
        for (int i = 0; i < r(10); i++) put("land", cell(), 1, r(3));
        for (int i = 0; i < 2 + r(5); i++) put("town", cell(), r(40));
        for (int i = 0; i < 8; i++) put("coin", i, r(3) == 0 ? r(20) : r(1000));
        put("man", r(20));
    }

    private void next() {
        stage++;
        if (stage < 5) {
            for (int i = 0; i < 1 + r(3); i++) makeScheme();
            return;
        }
        if (stage < 12 && flavour != 2) {
            chain(paper(1));
            return;
        }
        int kind = r(100);
        if (flavour == 1 && r(3) == 0) {
            orders();
        } else if (flavour == 2 && r(3) == 0) {
            if (r(2) == 0) stands(); else money();
        } else if (flavour >= 3 && r(3) == 0) {
            lines();
        } else if (kind < 8) {
            orders();
        } else if (kind < 25) {
            lines();
        } else if (kind < 40) {
            money();
        } else if (kind < 45) {
            stands();
        } else if (kind < 73) {
            looks();
        } else if (kind < 83) {
            small();
        } else if (kind < 86) {
            put(r(3) > 0 ? "image" : "undo");
        } else if (kind < 92) {
            put("dig", 1 + r(5));
        } else {
            wild();
        }
    }

    private int paper(int kind) {
        List<Integer> found = new ArrayList<>();
        for (int i = 0; i < model.papers.size(); i++) if (model.papers.get(i).kind == kind) found.add(i);
        return found.isEmpty() || r(40) == 0 ? r(62) - 1 : found.get(r(found.size()));
    }

    private int town() {
        return r(60) == 0 ? r(8) - 1 : r(Math.max(1, model.towns.size()));
    }

    private int day() {
        return r(30) == 0 ? r(1100) - 50 : model.today + r(5) - r(3);
    }

    private void makeScheme() {
        int from = town();
        int to = town();
        put("scheme", from, from == to && r(9) > 0 ? (to + 1) % Math.max(1, model.towns.size()) : to, r(2), 1 + r(30));
    }

    private void lines() {
        int scheme = paper(1);
        switch (r(8)) {
            case 0:
                if (r(3) == 0) makeScheme(); else put("bar", paper(3), paper(3));
                break;
            case 1: case 2: chain(scheme); break;
            case 3: put("bill", paper(2)); break;
            case 4: case 5: case 6: put("grant", paper(3)); break;
            default:
                if (r(3) == 0) put("claim", cell(), 1 + r(60)); else put("land", cell(), r(2), r(2) == 0 ? 0 : r(3));
        }
    }

    private void chain(int scheme) {
        if (scheme < 0 || scheme >= model.papers.size() || model.papers.get(scheme).kind != 1) return;
        Model.P s = model.papers.get(scheme);
        List<Integer> cells = walk(model.towns.get(s.from)[0], model.towns.get(s.to)[0]);
        while (cells.size() > 40) cells.remove(cells.size() - 1);
        if (r(8) == 0) cells.set(r(cells.size()), r(90) - 5);
        if (r(10) == 0) cells.remove(cells.size() - 1);
        if (r(10) == 0 && cells.size() < 40) cells.add(r(80));
        put("sheet", 0, 0, cells.size());
        for (int i = 0; i < cells.size(); i++) put("item", 0, i, cells.get(i) + (r(20) == 0 ? 256 : 0));
        int rises = Math.max(0, Math.min(40, cells.size() - 1 + (r(6) == 0 ? -1 - r(2) : r(2))));
        put("sheet", 1, r(15) == 0 ? 1 : 2, rises);
        for (int i = 0; i < rises; i++) {
            int rise = r(6) > 0 ? 1000000 : r(8) == 0 ? r(100000) - 50000 : r(3) - 1;
            put("item", 1, i, rise);
        }
        if (r(15) == 0) put("sheet", 1, -1, 0);
        put("chain", scheme, 0, r(20) == 0 ? r(4) : 1);
        if (r(2) == 0) put("bill", model.papers.size());
    }

    private List<Integer> walk(int from, int to) {
        List<Integer> cells = new ArrayList<>(List.of(from));
        int at = from;
        for (int i = 0; at != to && i < 60; i++) {
            int step;
            if (r(12) == 0) {
                step = new int[] {1, -1, 10, -10}[r(4)];
            } else if (at / 10 != to / 10 && (at % 10 == to % 10 || r(2) == 0)) {
                step = to / 10 > at / 10 ? 10 : -10;
            } else {
                step = to % 10 > at % 10 ? 1 : -1;
            }
            if (at + step < 0 || at + step > 79) continue;
            at += step;
            if (cells.contains(at)) cells.subList(cells.indexOf(at) + 1, cells.size()).clear(); else cells.add(at);
        }
        return cells;
    }

    private void money() {
        switch (r(8)) {
            case 0: put("scrip", paper(1), r(8), 1 + r(9)); break;
            case 1: put("call", paper(1), 1 + r(40)); break;
            case 2: case 3: put("lend", paper(1), r(8), 1 + r(r(3) == 0 ? 500 : 30)); break;
            case 4: if (r(3) == 0) put("settle"); break;
            case 5: put("coin", r(8), r(r(2) == 0 ? 30 : 500)); break;
            case 6: put("along", 0, r(8)); break;
            default: put("along", 1, paper(1));
        }
    }

    private void stands() {
        int scheme = paper(1);
        put("scrip", scheme, r(8), 1 + r(5));
        for (int i = r(8); i >= 0; i--) put("ask", r(8) == 0 ? paper(1) : scheme, r(8), 1 + r(6), 1 + r(30), r(2));
        if (r(4) > 0) put("price", scheme);
        for (int h = 0; h < 9; h++) if (r(3) == 0) put("held", scheme, h);
        put("read", scheme);
        put("purse", 0, r(8));
        put("purse", 1, paper(1));
    }

    private void looks() {
        int plan = paper(2);
        int bill = paper(3);
        switch (r(12)) {
            case 0: put("way", plan, r(3)); break;
            case 1: put("way", plan, 10 + r(12)); break;
            case 2: put("level", plan, r(10)); break;
            case 3: put("close", plan, r(2), day()); break;
            case 4: put("quarrel", plan, paper(2)); break;
            case 5: put("slope", town(), town(), day(), r(2) == 0 ? r(2) : 10 + r(12)); break;
            case 6: put("hear", bill, day()); break;
            case 7:
                put("last", bill, 0);
                put("last", bill, 1);
                break;
            case 8: put("gauge", r(1 << model.towns.size())); break;
            case 9: put("plan", r(1 << model.towns.size()), r(2) == 0 ? 9999 : r(300), r(2) == 0 ? 99999 : r(600), r(2)); break;
            case 10: put("known", r(2) == 0 ? paper(1) : bill, r(3) == 0 ? day() : r(model.today + 1)); break;
            default:
                put("meet");
                put("doubled");
        }
    }

    private void small() {
        switch (r(10)) {
            case 0: put("cast", r(model.papers.size() + 1), r(7)); break;
            case 1: put("about", r(model.papers.size() + 1), r(8)); break;
            case 2: case 3: put("board", r(8), paper(3), r(2)); break;
            case 4: put("hand", 1 + r(30), 1 + r(30)); break;
            case 5: case 6: put("midnight", 1 + r(r(2) == 0 ? 60 : 200), r(8) - 1); break;
            case 7: put("count", r(11)); break;
            case 8: put("man", r(20)); break;
            default: put("copy", r(3), r(5), r(3), r(5), r(5));
        }
    }

    // ---- orders

    private void orders() {
        String text = text();
        if (r(3) == 0) text = spoiled(text);
        byte[] bytes = text.getBytes(java.nio.charset.StandardCharsets.ISO_8859_1);
        for (int at = 0; at < bytes.length; ) {
            int n = Math.min(bytes.length - at, 5 + r(4));
            long w = 0;
            for (int i = 0; i < n; i++) w = w << 8 | (bytes[at + i] & 255);
            put("feed", w, n);
            at += n;
        }
        if (r(3) == 0) put("tried", r(3)); else put("text", r(2) == 0 ? model.today : model.today + r(20) - r(3));
        for (int i = r(4); i > 0; i--) put(r(2) == 0 ? "force" : "why", r(7), day());
    }

    private String text() {
        StringBuilder s = new StringBuilder();
        int clauses = r(5) == 0 ? 1 + r(9) : 1 + r(3);
        for (int i = 0; i < clauses; i++) {
            if (i > 0) s.append(';');
            switch (r(9)) {
                case 0: s.append("slope ").append(r(3) == 0 ? r(1200) : r(5)); break;
                case 1: s.append("close ").append(r(4)); break;
                case 2: s.append("stroke ").append(r(150)); break;
                case 3: s.append("call ").append(r(100)); break;
                case 4: s.append("gap ").append(r(12)); break;
                case 5: s.append("park ").append(r(2) == 0 ? 'y' : 'n'); break;
                default: s.append("let ").append(either(r(4)));
            }
        }
        return s.length() > 140 ? s.substring(0, 140) : s.toString();
    }

    private String either(int deep) {
        String e = both(deep);
        while (r(4) == 0) e += "|" + both(deep);
        return e;
    }

    private String both(int deep) {
        String t = single(deep);
        while (r(4) == 0) t += "&" + single(deep);
        return t;
    }

    private String single(int deep) {
        if (deep > 0 && r(3) == 0) return "!" + single(deep - 1 + (r(12) == 0 ? 1 : 0));
        if (deep > 0 && r(3) == 0) return "(" + either(deep - 1) + ")";
        if (r(5) == 0) return "g=" + r(2);
        return "ytwrc".charAt(r(5)) + (r(2) == 0 ? "<" : ">") + (r(3) == 0 ? r(200) : r(12));
    }

    private String spoiled(String text) {
        StringBuilder s = new StringBuilder(text);
        int at = r(s.length() + 1);
        String signs = "slopecktrgayn0123456789;!(()|&<>= g=let\u00e9";
        switch (r(4)) {
            case 0: s.setLength(at); break;
            case 1: if (at < s.length()) s.deleteCharAt(at); break;
            case 2: if (at < s.length()) s.setCharAt(at, signs.charAt(r(signs.length()))); break;
            default: s.insert(at, signs.charAt(r(signs.length())));
        }
        return s.length() > 140 ? s.substring(0, 140) : s.toString();
    }

    // ---- wild calls

    private void wild() {
        String name = NAMES[r(NAMES.length)];
        if (r(2) == 0 && (name.equals("undo") || name.equals("image"))) return;
        Class<?>[] types = METHODS.get(name).getParameterTypes();
        long[] args = new long[types.length];
        for (int i = 0; i < args.length; i++) {
            if (types[i] == boolean.class) args[i] = r(2);
            else if (types[i] == long.class) args[i] = random.nextLong();
            else args[i] = number();
        }
        put(name, args);
    }

    private int number() {
        switch (r(8)) {
            case 0: return random.nextInt();
            case 1: return r(2) == 0 ? Integer.MIN_VALUE + r(3) : Integer.MAX_VALUE - r(3);
            case 2: return -1 - r(3);
            case 3: return r(1001);
            case 4: return r(101);
            default: return r(9);
        }
    }
}
