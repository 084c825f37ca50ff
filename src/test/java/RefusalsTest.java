import java.util.function.Supplier;
import java.util.function.ToIntFunction;

/**
 * Each call that is refused: which of the errors it returns where several apply, and that it changes
 * nothing: not the lining, the scans, the text or the reason, nor any state of the history.
 */
public final class RefusalsTest {
    private RefusalsTest() {
    }

    public static void main(String[] args) {
        invalidInEachState();
        invalidRatherThanNotPossible();
        invalidRatherThanLimitReached();
        invalidRatherThanNotFound();
        notPossibleRatherThanLimitReached();
        notPossibleRatherThanNotFound();
        onlyOneApplies();
        noneApplies();
        Due.end("RefusalsTest");
    }

    private static LiningLog fresh() {
        return new LiningLog();
    }

    /** A full history, four scans, the latest two of the same heat, and a text with a fault behind a right line. */
    private static LiningLog busy() {
        LiningLog log = new LiningLog();
        log.begin(2, 3);
        log.set(2, 70000);
        log.gun(1, 200);
        log.scan();
        log.scan();
        log.heat(1700, 50);
        log.scan();
        log.scan();
        Due.type(log, "s;g6,1;");
        return log;
    }

    /** Over, with no stock; spot 0 is too thick for an amount of 500, and the reason is 1. */
    private static LiningLog over() {
        LiningLog log = new LiningLog();
        log.begin(2, 3);
        log.set(0, 2000);
        log.set(1, 500);
        log.rate(0, 0);
        log.rate(1, 50);
        for (int heat = 0; heat < 10; heat++) {
            log.heat(1800, 100);
        }
        log.gun(0, 500);
        log.heat(1800, 100);
        log.set(4, 0);
        Due.type(log, "h1600,0;");
        log.run();
        return log;
    }

    /** Spot 0 has 3500, the stock is 1, and the text is full. */
    private static LiningLog full() {
        LiningLog log = new LiningLog();
        log.begin(1, 3);
        log.gun(0, 500);
        log.gun(0, 334);
        log.set(4, 1);
        Due.type(log, "s;".repeat(50));
        return log;
    }

    /** Nothing wears, and so no heats end the campaign; no scan. */
    private static LiningLog still() {
        LiningLog log = new LiningLog();
        log.begin(1, 3);
        log.rate(0, 0);
        return log;
    }

    /** The call's answer, and that all is as in a log that was made alike and not asked. */
    private static void leavesAll(String call, Supplier<LiningLog> made, int due, ToIntFunction<LiningLog> asked) {
        LiningLog log = made.get();
        Due.same(call, asked.applyAsInt(log), due);
        Due.same(call, Seen.story(log), Seen.story(made.get()));
    }

    private static void invalid(String call, Supplier<LiningLog> made, ToIntFunction<LiningLog> asked) {
        leavesAll(call, made, Due.INVALID, asked);
    }

    private static void impossible(String call, Supplier<LiningLog> made, ToIntFunction<LiningLog> asked) {
        leavesAll(call, made, Due.IMPOSSIBLE, asked);
    }

    private static void reached(String call, Supplier<LiningLog> made, ToIntFunction<LiningLog> asked) {
        leavesAll(call, made, Due.REACHED, asked);
    }

    private static void missing(String call, Supplier<LiningLog> made, ToIntFunction<LiningLog> asked) {
        leavesAll(call, made, Due.MISSING, asked);
    }

    private static void invalidInEachState() {
        Due.about("A call that returns an error changes nothing");
        invalidIn("fresh", RefusalsTest::fresh);
        invalidIn("busy", RefusalsTest::busy);
        invalidIn("over", RefusalsTest::over);
        invalidIn("full", RefusalsTest::full);
        invalidIn("still", RefusalsTest::still);
    }

    private static void invalidIn(String state, Supplier<LiningLog> made) {
        invalid(state + ": begin(0, 3)", made, log -> log.begin(0, 3));
        invalid(state + ": begin(1, 11)", made, log -> log.begin(1, 11));
        invalid(state + ": rate(-1, 5)", made, log -> log.rate(-1, 5));
        invalid(state + ": rate(0, 51)", made, log -> log.rate(0, 51));
        invalid(state + ": set(6, 100)", made, log -> log.set(6, 100));
        invalid(state + ": set(0, 2001)", made, log -> log.set(0, 2001));
        invalid(state + ": heat(1399, 0)", made, log -> log.heat(1399, 0));
        invalid(state + ": heat(1600, 101)", made, log -> log.heat(1600, 101));
        invalid(state + ": gun(18, 1)", made, log -> log.gun(18, 1));
        invalid(state + ": gun(0, 501)", made, log -> log.gun(0, 501));
        invalid(state + ": reline(-2)", made, log -> log.reline(-2));
        invalid(state + ": reline(3)", made, log -> log.reline(3));
        invalid(state + ": count(11)", made, log -> log.count(11));
        invalid(state + ": spot(0, 8)", made, log -> log.spot(0, 8));
        invalid(state + ": neighbour(0, -1)", made, log -> log.neighbour(0, -1));
        invalid(state + ": account(5)", made, log -> log.account(5));
        invalid(state + ": scanned(4, 0, 0)", made, log -> log.scanned(4, 0, 0));
        invalid(state + ": scanned(0, 0, 5)", made, log -> log.scanned(0, 0, 5));
        invalid(state + ": peaks(4)", made, log -> log.peaks(4));
        invalid(state + ": trend(18)", made, log -> log.trend(18));
        invalid(state + ": heatsByTrend(-1)", made, log -> log.heatsByTrend(-1));
        invalid(state + ": heatsLeft(1801, 0)", made, log -> log.heatsLeft(1801, 0));
        invalid(state + ": firstThrough(1600, -1)", made, log -> log.firstThrough(1600, -1));
        invalid(state + ": bestSpot(0, 1600, 0)", made, log -> log.bestSpot(0, 1600, 0));
        invalid(state + ": wear(18, 1600, 0)", made, log -> log.wear(18, 1600, 0));
        invalid(state + ": type(127)", made, log -> log.type(127));
    }

    private static void invalidRatherThanNotPossible() {
        Due.about("INVALID_ARGUMENT is returned rather than NOT_POSSIBLE");
        invalid("over: heat(1399, 0)", RefusalsTest::over, log -> log.heat(1399, 0));
        invalid("over: heat(1600, -1)", RefusalsTest::over, log -> log.heat(1600, -1));
        invalid("over: gun(6, 1)", RefusalsTest::over, log -> log.gun(6, 1));
        invalid("over: gun(0, 0)", RefusalsTest::over, log -> log.gun(0, 0));
        invalid("too thick: gun(0, 501)", RefusalsTest::full, log -> log.gun(0, 501));
        invalid("over: firstThrough(1399, 0)", RefusalsTest::over, log -> log.firstThrough(1399, 0));
        invalid("over: firstThrough(1600, 101)", RefusalsTest::over, log -> log.firstThrough(1600, 101));
        invalid("over: bestSpot(501, 1600, 0)", RefusalsTest::over, log -> log.bestSpot(501, 1600, 0));
        invalid("over: bestSpot(1, 1801, 0)", RefusalsTest::over, log -> log.bestSpot(1, 1801, 0));
        invalid("over: bestSpot(1, 1600, 101)", RefusalsTest::over, log -> log.bestSpot(1, 1600, 101));
        invalid("no stock: bestSpot(501, 1600, 0)", RefusalsTest::full, log -> log.bestSpot(501, 1600, 0));
    }

    private static void invalidRatherThanLimitReached() {
        Due.about("INVALID_ARGUMENT rather than LIMIT_REACHED");
        invalid("stock of 1: gun(3, 2)", RefusalsTest::full, log -> log.gun(3, 2));
        invalid("stock of 1: gun(-1, 2)", RefusalsTest::full, log -> log.gun(-1, 2));
        invalid("stock of 1: gun(1, 501)", RefusalsTest::full, log -> log.gun(1, 501));
        invalid("100 characters: type(31)", RefusalsTest::full, log -> log.type(31));
        invalid("100 characters: type(127)", RefusalsTest::full, log -> log.type(127));
    }

    private static void invalidRatherThanNotFound() {
        Due.about("INVALID_ARGUMENT rather than NOT_FOUND");
        invalid("not so many: neighbour(3, 9)", RefusalsTest::still, log -> log.neighbour(3, 9));
        invalid("not so many: neighbour(-1, 2)", RefusalsTest::still, log -> log.neighbour(-1, 2));
        invalid("no scan: trend(3)", RefusalsTest::still, log -> log.trend(3));
        invalid("no scan: trend(-1)", RefusalsTest::still, log -> log.trend(-1));
        invalid("no scan: heatsByTrend(3)", RefusalsTest::still, log -> log.heatsByTrend(3));
        invalid("no scan: heatsByTrend(-1)", RefusalsTest::still, log -> log.heatsByTrend(-1));
        invalid("the same heat: trend(6)", RefusalsTest::busy, log -> log.trend(6));
        invalid("the same heat: heatsByTrend(6)", RefusalsTest::busy, log -> log.heatsByTrend(6));
        invalid("never over: heatsLeft(1399, 0)", RefusalsTest::still, log -> log.heatsLeft(1399, 0));
        invalid("never over: heatsLeft(1600, 101)", RefusalsTest::still, log -> log.heatsLeft(1600, 101));
        invalid("none: firstThrough(1801, 0)", RefusalsTest::still, log -> log.firstThrough(1801, 0));
        invalid("none: firstThrough(1600, -1)", RefusalsTest::still, log -> log.firstThrough(1600, -1));
    }

    private static void notPossibleRatherThanLimitReached() {
        Due.about("NOT_POSSIBLE rather than LIMIT_REACHED");
        impossible("over, and no stock: gun(3, 1)", RefusalsTest::over, log -> log.gun(3, 1));
        impossible("over, too thick, and no stock: gun(0, 500)", RefusalsTest::over, log -> log.gun(0, 500));
        impossible("too thick, and a stock of 1: gun(0, 2)", RefusalsTest::full, log -> log.gun(0, 2));
        impossible("too thick, and a stock of 1: gun(0, 500)", RefusalsTest::full, log -> log.gun(0, 500));
        impossible("no stock anywhere: bestSpot(2, 1600, 0)", RefusalsTest::full, log -> log.bestSpot(2, 1600, 0));
    }

    private static void notPossibleRatherThanNotFound() {
        Due.about("NOT_POSSIBLE rather than NOT_FOUND");
        impossible("over, and nothing would be through", RefusalsTest::overAndStill, log -> log.firstThrough(1600, 0));
        impossible("over: bestSpot, of which none would end", RefusalsTest::overAndStill,
                log -> log.bestSpot(1, 1600, 0));
    }

    private static LiningLog overAndStill() {
        LiningLog log = over();
        log.set(0, 0);
        log.rate(1, 0);
        return log;
    }

    private static void onlyOneApplies() {
        Due.about("A call that returns an error changes nothing: errors of the present state");
        impossible("over: heat", RefusalsTest::over, log -> log.heat(1600, 0));
        impossible("over: firstThrough", RefusalsTest::over, log -> log.firstThrough(1600, 0));
        impossible("over: bestSpot", RefusalsTest::over, log -> log.bestSpot(1, 1600, 0));
        impossible("no history: undo", RefusalsTest::fresh, LiningLog::undo);
        impossible("a fault: run", RefusalsTest::busy, LiningLog::run);
        reached("stock of 1: gun(1, 2)", RefusalsTest::full, log -> log.gun(1, 2));
        reached("100 characters: type", RefusalsTest::full, log -> log.type('s'));
        missing("two neighbours: neighbour(0, 2)", RefusalsTest::still, log -> log.neighbour(0, 2));
        missing("three neighbours: neighbour(0, 3)", RefusalsTest::busy, log -> log.neighbour(0, 3));
        missing("no scan: trend", RefusalsTest::still, log -> log.trend(0));
        missing("no scan: heatsByTrend", RefusalsTest::still, log -> log.heatsByTrend(0));
        missing("the same heat: trend", RefusalsTest::busy, log -> log.trend(0));
        missing("the same heat: heatsByTrend", RefusalsTest::busy, log -> log.heatsByTrend(0));
        missing("never over: heatsLeft", RefusalsTest::still, log -> log.heatsLeft(1800, 100));
        missing("none: firstThrough", RefusalsTest::still, log -> log.firstThrough(1800, 100));
        missing("no fault", RefusalsTest::full, LiningLog::fault);
        missing("no text", RefusalsTest::still, LiningLog::fault);
    }

    private static void noneApplies() {
        Due.about("asking changes nothing");
        leavesAll("over: heatsLeft", RefusalsTest::over, 0, log -> log.heatsLeft(1600, 0));
        leavesAll("busy: heatsLeft", RefusalsTest::busy, 110, log -> log.heatsLeft(1800, 100));
        leavesAll("busy: firstThrough", RefusalsTest::busy, 0, log -> log.firstThrough(1800, 100));
        leavesAll("busy: bestSpot", RefusalsTest::busy, 0, log -> log.bestSpot(500, 1800, 100));
        leavesAll("busy: wear", RefusalsTest::busy, 20, log -> log.wear(0, 1800, 100));
        leavesAll("busy: fault", RefusalsTest::busy, 2, LiningLog::fault);
        leavesAll("busy: peaks", RefusalsTest::busy, 1, log -> log.peaks(3));
        leavesAll("over: wear", RefusalsTest::over, 100, log -> log.wear(3, 1800, 100));
        leavesAll("over: reason", RefusalsTest::over, 1, LiningLog::reason);
    }
}
