import java.util.ArrayList;
import java.util.List;
import java.util.function.Supplier;
import java.util.function.ToIntFunction;

/** Term 8: each refusal of each call, told as it should be and changing nothing. */
final class SaysRefusals {
    record Refused(String what, int due, ToIntFunction<LinesPromised> call) { }

    private static final List<Refused> OF_RICH = new ArrayList<>();
    private static final List<Refused> OF_FULL = new ArrayList<>();

    private SaysRefusals() {
    }

    static void all() {
        none();
        bad();
        state();
        full();
        host();
        severalAtOnce();
        theyChangeNothing();
    }

    private static void rich(String what, int due, ToIntFunction<LinesPromised> call) {
        OF_RICH.add(new Refused(what, due, call));
        Check.due(what, call.applyAsInt(Everything.rich()), due);
    }

    private static void brimful(String what, int due, ToIntFunction<LinesPromised> call) {
        OF_FULL.add(new Refused(what, due, call));
        Check.due(what, call.applyAsInt(Everything.full()), due);
    }

    private static void none() {
        Says.term(8, "NONE there is no such CELL, TOWN, PAPER (of that KIND), HOLDER, ORDER, word, DAY (that went by), what, i;");
        rich("no cell", -1, x -> x.land(80, 0, 1));
        rich("no cell", -1, x -> x.town(80, 1));
        rich("no cell", -1, x -> x.claim(-1, 1));
        rich("no town", -1, x -> x.scheme(0, 4, 0, 1));
        rich("no town", -1, x -> x.slope(4, 0, 0, 0));
        rich("no scheme", -1, x -> x.chain(4, 0, 1));
        rich("no plan", -1, x -> x.bill(8));
        rich("no plan", -1, x -> x.way(3, 0));
        rich("no plan", -1, x -> x.level(3, 0));
        rich("no plan", -1, x -> x.close(3, 0, 0));
        rich("no plan", -1, x -> x.quarrel(4, 8));
        rich("no bill", -1, x -> x.hear(7, 0));
        rich("no bill", -1, x -> x.bar(8, 7));
        rich("no bill", -1, x -> x.grant(12));
        rich("no bill", -1, x -> x.board(0, 7, true));
        rich("no bill", -1, x -> x.last(7, 0));
        rich("no paper", -1, x -> x.cast(15, 0));
        rich("no paper", -1, x -> x.about(15, 0));
        rich("no paper", -1, x -> x.known(15, 0));
        rich("no scheme", -1, x -> x.scrip(4, 0, 1));
        rich("no scheme", -1, x -> x.held(4, 0));
        rich("no scheme", -1, x -> x.purse(1, 4));
        rich("no scheme", -1, x -> x.ask(4, 0, 1, 1, true));
        rich("no scheme", -1, x -> x.price(4));
        rich("no scheme", -1, x -> x.read(4));
        rich("no scheme", -1, x -> x.call(4, 1));
        rich("no scheme", -1, x -> x.lend(4, 1, 1));
        rich("no scheme", -1, x -> x.along(1, 4));
        rich("no holder", -1, x -> x.coin(8, 1));
        rich("no holder", -1, x -> x.board(8, 8, true));
        rich("no holder", -1, x -> x.scrip(0, 8, 1));
        rich("no holder", -1, x -> x.ask(0, 8, 1, 1, true));
        rich("no holder", -1, x -> x.lend(0, 8, 1));
        rich("no holder", -1, x -> x.held(0, 9));
        rich("no word", -1, x -> x.force(7, 0));
        rich("no word", -1, x -> x.why(-1, 0));
        rich("no day that went by", -1, x -> x.known(0, 3));
        rich("no what", -1, x -> x.land(0, 2, 1));
        rich("no what", -1, x -> x.tried(3));
        rich("no what", -1, x -> x.plan(3, 99, 99, 2));
        rich("no what", -1, x -> x.count(11));
        rich("no what", -1, x -> x.along(2, 0));
        rich("no what", -1, x -> x.about(0, 8));
        rich("no kind", -1, x -> x.cast(0, 7));
        rich("no i", -1, x -> x.level(4, 4));
        rich("no i", -1, x -> x.way(4, 14));
        rich("no i", -1, x -> x.midnight(9, 1));
        rich("no i", -1, x -> x.slope(0, 1, 0, 99));
        rich("no sheet", -1, x -> x.sheet(4, 0, 1));
        rich("no sheet", -1, x -> x.item(4, 0, 1));
        rich("no sheet", -1, x -> x.copy(0, 0, 4, 0, 1));
        rich("no sheet", -1, x -> x.chain(0, 0, 4));
    }

    private static void bad() {
        Says.term(8, "BAD a number is not as told;");
        rich("height", -2, x -> x.land(0, 0, 100));
        rich("ground", -2, x -> x.land(0, 1, 3));
        rich("trade", -2, x -> x.town(50, 100));
        rich("coins", -2, x -> x.coin(0, 100000));
        rich("men", -2, x -> x.man(100));
        rich("bytes", -2, x -> x.feed(0, 9));
        rich("day", -2, x -> x.text(1000));
        rich("day", -2, x -> x.force(0, 1000));
        rich("day", -2, x -> x.why(0, -1));
        rich("one town", -2, x -> x.scheme(1, 1, 0, 1));
        rich("gauge", -2, x -> x.scheme(0, 1, 2, 1));
        rich("shares", -2, x -> x.scheme(0, 1, 0, 100));
        rich("day", -2, x -> x.close(4, 0, 1000));
        rich("one plan", -2, x -> x.quarrel(4, 4));
        rich("one town", -2, x -> x.slope(1, 1, 0, 0));
        rich("coins", -2, x -> x.claim(0, 10000));
        rich("day", -2, x -> x.hear(8, 1000));
        rich("one bill", -2, x -> x.bar(8, 8));
        rich("hours", -2, x -> x.hand(0, 31));
        rich("hour", -2, x -> x.midnight(1000, 0));
        rich("shares", -2, x -> x.scrip(0, 0, 100));
        rich("shares", -2, x -> x.ask(0, 0, 100, 1, true));
        rich("price", -2, x -> x.ask(0, 0, 1, 1000, true));
        rich("pence", -2, x -> x.call(0, 71));
        rich("coins", -2, x -> x.lend(0, 7, 10000));
        rich("days", -2, x -> x.dig(51));
        rich("bits", -2, x -> x.gauge(16));
        rich("bits", -2, x -> x.plan(16, 1, 1, 0));
        rich("sort", -2, x -> x.sheet(0, 3, 1));
        rich("too many", -2, x -> x.sheet(0, 0, 41));
    }

    private static void state() {
        Says.term(8, "STATE as told;");
        rich("a town is there", -3, x -> x.town(0, 1));
        rich("it has a bill", -3, x -> x.bill(4));
        rich("granted", -3, x -> x.grant(8));
        rich("not granted", -3, x -> x.last(9, 0));
        rich("not so many shares", -3, x -> x.scrip(0, 0, 11));
        rich("not so many coins", -3, x -> x.lend(0, 5, 431));
        rich("no image", -3, x -> x.undo());
        brimful("fallen", -3, x -> x.scrip(3, 0, 1));
        brimful("fallen", -3, x -> x.call(3, 1));
        brimful("fallen", -3, x -> x.lend(3, 6, 1));
    }

    private static void full() {
        Says.term(8, "FULL;");
        brimful("towns", -4, x -> x.town(60, 1));
        brimful("tape", -4, x -> x.feed(0, 1));
        brimful("orders", -4, x -> x.text(0));
        brimful("schemes and papers", -4, x -> x.scheme(0, 1, 0, 1));
        brimful("papers", -4, x -> x.chain(0, 0, 1));
        brimful("papers", -4, x -> x.claim(13, 1));
        brimful("papers", -4, x -> x.call(1, 1));
        brimful("papers", -4, x -> x.lend(1, 6, 1));
        brimful("votes", -4, x -> x.board(0, 8, true));
        brimful("jobs", -4, x -> x.hand(1, 1));
        brimful("what stands", -4, x -> x.ask(0, 0, 1, 1, true));
    }

    private static void host() {
        Says.term(8, "the host's: -11 nothing where something is asked, -12 a place outside, -13 a thing of another sort or KIND,"
            + " -14 a size below 0.");
        rich("a missing row", -11, x -> x.chain(0, 3, 1));
        rich("a missing row", -11, x -> x.item(3, 0, 1));
        rich("a missing row", -11, x -> x.copy(0, 0, 3, 0, 1));
        rich("a place outside", -12, x -> x.item(0, 3, 1));
        rich("a place outside", -12, x -> x.copy(0, 2, 0, 0, 2));
        rich("a place outside", -12, x -> x.copy(0, 0, 0, 2, 2));
        rich("n below 0", -12, x -> x.copy(0, 0, 0, 0, -1));
        rich("another sort", -13, x -> x.chain(0, 1, 1));
        rich("another sort", -13, x -> x.copy(0, 0, 1, 0, 1));
        rich("another kind", -13, x -> x.cast(0, 2));
        rich("a size below 0", -14, x -> x.sheet(0, 0, -1));
    }

    private static void severalAtOnce() {
        Says.term(8, "REFUSALS, of several the first one told:");
        brimful("none, bad", -1, x -> x.land(80, 0, 100));
        brimful("none, bad, full", -1, x -> x.town(80, 100));
        brimful("bad, state, full", -2, x -> x.town(0, 100));
        brimful("state, full", -3, x -> x.town(0, 1));
        brimful("none, bad", -1, x -> x.coin(8, -1));
        brimful("bad, full", -2, x -> x.feed(0, 9));
        brimful("bad, full", -2, x -> x.text(1000));
        brimful("none, bad", -1, x -> x.force(7, 1000));
        brimful("none, bad", -1, x -> x.why(7, 1000));
        brimful("none, bad, full", -1, x -> x.scheme(6, 6, 2, 0));
        brimful("bad, full", -2, x -> x.scheme(0, 0, 0, 1));
        brimful("none, missing, full", -1, x -> x.chain(0, 3, 4));
        brimful("missing, full", -11, x -> x.chain(0, 3, 0));
        brimful("another sort, full", -13, x -> x.chain(0, 1, 1));
        brimful("none, bad", -1, x -> x.close(0, 0, 1000));
        brimful("none, bad", -1, x -> x.quarrel(0, 0));
        brimful("none, bad", -1, x -> x.slope(6, 6, 1000, 0));
        brimful("none, bad, full", -1, x -> x.claim(80, 0));
        brimful("bad, full", -2, x -> x.claim(0, 0));
        brimful("none, full", -1, x -> x.bill(0));
        brimful("state, full", -3, x -> x.bill(4));
        brimful("none, bad", -1, x -> x.hear(0, 1000));
        brimful("none, bad", -1, x -> x.bar(0, 0));
        brimful("none, another kind", -1, x -> x.cast(0, 7));
        brimful("none, full", -1, x -> x.board(8, 8, true));
        brimful("bad, full", -2, x -> x.hand(1, 31));
        brimful("none, bad", -1, x -> x.midnight(0, -2));
        brimful("bad, none", -2, x -> x.midnight(0, 9));
        brimful("none, bad, state", -1, x -> x.scrip(3, 8, 100));
        brimful("bad, state", -2, x -> x.scrip(3, 0, 100));
        brimful("none, bad, full", -1, x -> x.ask(0, 8, 0, 0, true));
        brimful("bad, full", -2, x -> x.ask(0, 0, 0, 1, true));
        brimful("none, bad, state, full", -1, x -> x.call(60, 0));
        brimful("bad, state, full", -2, x -> x.call(3, 0));
        brimful("state, full", -3, x -> x.call(3, 1));
        brimful("none, bad, state, full", -1, x -> x.lend(3, 8, 0));
        brimful("bad, state, full", -2, x -> x.lend(3, 6, 0));
        brimful("state, full", -3, x -> x.lend(1, 0, 9999));
        brimful("none, state", -1, x -> x.last(9, 2));
        brimful("none, bad", -1, x -> x.plan(64, -1, -1, 2));
        brimful("none, bad, below 0", -1, x -> x.sheet(4, 3, -1));
        brimful("bad, below 0", -2, x -> x.sheet(0, 3, -1));
        brimful("none, missing, outside", -1, x -> x.item(4, -1, 0));
        brimful("missing, outside", -11, x -> x.item(3, -1, 0));
        brimful("none, missing, outside", -1, x -> x.copy(3, -1, 4, 0, 1));
        brimful("missing, outside", -11, x -> x.copy(3, -1, 0, 0, 1));
        brimful("another sort, outside", -13, x -> x.copy(0, -1, 1, 0, -1));
    }

    private static void theyChangeNothing() {
        Says.term(8, "They change nothing.");
        changesNothing(OF_RICH, Everything::rich);
        changesNothing(OF_FULL, Everything::full);
    }

    /** An object that refused a call goes on just as one that was never asked. */
    private static void changesNothing(List<Refused> calls, Supplier<LinesPromised> made) {
        long due = Everything.andOn(made.get());
        for (Refused r : calls) {
            LinesPromised x = made.get();
            for (int i = 0; i < 2; i++) Check.due(r.what, r.call.applyAsInt(x), r.due);
            Check.due(r.what + " (" + r.due + "): what comes then", Everything.andOn(x), due);
        }
        LinesPromised x = made.get();
        for (Refused r : calls) r.call.applyAsInt(x);
        Check.due("all refused calls: what comes then", Everything.andOn(x), due);
    }
}
