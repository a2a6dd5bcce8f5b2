import java.lang.management.ManagementFactory;
import java.lang.reflect.InvocationTargetException;
import java.lang.reflect.Method;
import java.lang.reflect.Modifier;
import java.util.Arrays;
import java.util.Comparator;

/** No call throws, whatever its numbers, and no run of calls takes much room. */
public final class WildTest {
    private static final int[] NUMBERS = {0, 1, -1, 2, -2, 7, 8, 39, 40, 41, 59, 60, 79, 80, 99, 100, 999, 1000, 99999,
        Integer.MAX_VALUE, Integer.MIN_VALUE, Integer.MAX_VALUE - 9, 1 << 30, 256, -128, 63, 64};

    public static void main(String[] args) throws Exception {
        for (Method m : methods()) {
            edges(m, new LinesPromised(), "new");
            edges(m, rich(), "rich");
        }
        for (Method m : methods()) room(m.getName());
        Check.end();
    }

    private static Method[] methods() {
        Method[] all = Arrays.stream(LinesPromised.class.getDeclaredMethods())
            .filter(m -> Modifier.isPublic(m.getModifiers())).toArray(Method[]::new);
        Arrays.sort(all, Comparator.comparing(Method::getName));
        return all;
    }

    /** Something of all there can be, and 60 papers. */
    private static LinesPromised rich() {
        LinesPromised x = Check.fourBills();
        for (int holder = 0; holder < 8; holder++) x.coin(holder, 99999);
        for (int i = 0; i < 8; i++) Check.order(x, "let (y<1|t>2)&!c>3|g=0;gap 0;call 999", i, i);
        for (int i = 0; i < 7; i++) x.hand(1 + i, 30 - i);
        for (int i = 0; i < 40; i++) x.ask(i % 4, i % 8, 99, 1 + i % 7, i % 3 == 0);
        for (int i = 0; i < 60; i++) x.board(i % 8, 8 + i % 4, i % 5 == 0);
        for (int i = 0; i < 32; i++) x.scrip(i % 4, i / 4, 2);
        for (int i = 0; i < 4; i++) x.grant(8 + i);
        for (int i = 0; i < 8; i++) Check.due("lend", x.lend(i % 4, i, 9999), 12 + i);
        x.man(99);
        x.dig(3);
        for (int i = 0; x.count(1) < 60; i++) if (i % 2 == 0) x.claim(i, 9999); else x.call(i % 4, 999);
        x.image();
        return x;
    }

    private static void edges(Method m, LinesPromised x, String which) throws Exception {
        Class<?>[] types = m.getParameterTypes();
        int n = NUMBERS.length;
        int all = types.length == 0 ? 1 : types.length == 1 ? n : types.length == 2 ? n * n : n * n * n;
        for (int k = 0; k < all; k++) {
            int[] picks = {k, k / n, k / n / n, 7 * k + k / n, 11 * k + k / n / n};
            Object[] args = new Object[types.length];
            for (int i = 0; i < types.length; i++) {
                int number = NUMBERS[picks[i] % n];
                if (types[i] == boolean.class) args[i] = number % 2 == 0;
                else if (types[i] == long.class) args[i] = (long) number;
                else args[i] = number;
            }
            try {
                m.invoke(x, args);
            } catch (InvocationTargetException e) {
                Check.holds(which + " " + m.getName() + Arrays.toString(args) + " threw " + e.getCause(), false);
            }
        }
        Check.holds(m.getName() + " was called", all > 0);
    }

    /** The bytes that an object and its 512 dearest calls make: far less than the room for all. */
    private static void room(String name) {
        var threads = (com.sun.management.ThreadMXBean) ManagementFactory.getThreadMXBean();
        LinesPromised x = Check.fourBills();
        x.image();
        long before = threads.getCurrentThreadAllocatedBytes();
        for (int i = 0; i < 512; i++) dear(x, name, i);
        long made = threads.getCurrentThreadAllocatedBytes() - before;
        Check.holds("512 times " + name + " made " + made + " bytes", made < 1500000);
        before = threads.getCurrentThreadAllocatedBytes();
        x = new LinesPromised();
        made = threads.getCurrentThreadAllocatedBytes() - before;
        Check.holds("an object has " + made + " bytes, and none are " + x.count(0), made < 50000);
    }

    private static void dear(LinesPromised x, String name, int i) {
        switch (name) {
            case "text":
                if (i % 8 == 0) x.undo();
                for (int k = 0; k < 17; k++) x.feed(0x6C657420673D303BL, 8);
                x.feed(0x6C6574L, 4);
                x.text(0);
                break;
            case "tried":
                for (int k = 0; k < 8; k++) x.feed(0x6C657420673D303BL, k < 7 ? 8 : 7);
                x.tried(i % 3);
                break;
            case "chain":
                if (x.chain(0, 2, 3) < 0) x.undo();
                break;
            case "dig":
                x.grant(8);
                if (x.dig(50) < 0) x.undo();
                break;
            case "settle":
                if (x.lend(0, 0, 9) < 0) x.undo();
                x.coin(0, 9);
                x.settle();
                break;
            case "midnight":
                x.hand(i % 30, i % 29);
                x.midnight(99, 0);
                break;
            case "image": x.image(); break;
            case "undo": x.undo(); break;
            case "slope": x.slope(0, 2, 0, 0); break;
            case "gauge": x.gauge(15); break;
            case "plan": x.plan(15, 99999, 999999, 0); break;
            case "price":
                x.ask(0, 0, 1, 1, true);
                x.price(0);
                break;
            default: x.count(i % 11);
        }
    }
}
