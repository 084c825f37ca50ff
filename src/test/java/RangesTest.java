/**
 * The ranges of all arguments: the last value that is in range and the first one that is not, on both
 * sides; what is out of range is INVALID_ARGUMENT and changes nothing, not even a kept state.
 */
public final class RangesTest {
    private static final String UNTOUCHED = Seen.story(ready());

    private interface Call {
        int on(LiningLog log, int value);
    }

    private RangesTest() {
    }

    public static void main(String[] args) {
        changes();
        settings();
        lining();
        whatIsAsked();
        scans();
        plans();
        characters();
        numbersOfLines();
        for (int rings = 1; rings <= 6; rings++) {
            for (int sectors = 3; sectors <= 10; sectors++) {
                spotsAndRings(rings, sectors);
            }
        }
        scansThatAreKept();
        Due.end("RangesTest");
    }

    /** Two rings of four, two scans of different heats, and a full history. */
    private static LiningLog ready() {
        LiningLog log = new LiningLog();
        log.begin(2, 4);
        log.set(2, 100000);
        log.rate(1, 20);
        log.heat(1600, 0);
        log.scan();
        log.heat(1600, 0);
        log.scan();
        return log;
    }

    private static void range(String sentence, int low, int high, int atLow, int atHigh, Call call) {
        Due.about(sentence);
        Due.same("at " + low, call.on(ready(), low), atLow);
        Due.same("at " + high, call.on(ready(), high), atHigh);
        refused(low - 1, call);
        refused(high + 1, call);
        for (int wild : Due.WILD) {
            refused(wild, call);
        }
    }

    private static void refused(int value, Call call) {
        LiningLog log = ready();
        Due.same("at " + value, call.on(log, value), Due.INVALID);
        Due.same("at " + value, Seen.story(log), UNTOUCHED);
    }

    private static void changes() {
        range("begin: rings: 1 to 6", 1, 6, 4, 24, (log, rings) -> log.begin(rings, 4));
        range("begin: sectors: 3 to 10", 3, 10, 6, 20, (log, sectors) -> log.begin(2, sectors));
        range("rate: number of the ring", 0, 1, 10, 20, (log, ring) -> log.rate(ring, 7));
        range("rate: value: 0 to 50", 0, 50, 20, 20, (log, value) -> log.rate(1, value));
        range("heat: temperature: 1400 to 1800", 1400, 1800, 4 * 5 + 4 * 10, 4 * 15 + 4 * 30,
                (log, temperature) -> log.heat(temperature, 0));
        range("heat: slag: 0 to 100", 0, 100, 4 * 10 + 4 * 20, 4 * 15 + 4 * 30, (log, slag) -> log.heat(1600, slag));
        range("gun: number of the spot", 0, 7, 80, 80, (log, spot) -> log.gun(spot, 100));
        range("gun: amount: 1 to 500", 1, 500, 0, 400, (log, amount) -> log.gun(2, amount));
        range("reline: number of the ring, or -1 for all", -1, 1, 4 * 2980 + 4 * 2960, 4 * 2960, LiningLog::reline);
    }

    private static void settings() {
        range("set: what: 0 to 5", 0, 5, 800, 20, (log, what) -> log.set(what, 100));
        int[][] settings = {{0, 2000, 800}, {1, 500, 50}, {1000, 100000, 100000}, {50, 1000, 60},
            {0, 100000, 20000}, {1, 100, 20}};
        for (int number = 0; number < settings.length; number++) {
            int what = number;
            int[] setting = settings[number];
            range("setting " + what, setting[0], setting[1], setting[2], setting[2],
                    (log, value) -> log.set(what, value));
            range("setting " + what + ", asked for", setting[0], setting[1], setting[0], setting[1], (log, value) -> {
                int answer = log.set(what, value);
                return answer == Due.INVALID ? answer : log.count(20 + what);
            });
        }
    }

    private static void lining() {
        range("spot: number of the spot", 0, 7, 2980, 2960, (log, spot) -> log.spot(spot, 2));
        range("spot: what: 0 to 7", 0, 7, 2980, 10, (log, what) -> log.spot(0, what));
        range("neighbour: number of the spot", 0, 7, 1, 3, (log, spot) -> log.neighbour(spot, 0));
        Due.about("neighbour: INVALID_ARGUMENT if index is negative; NOT_FOUND if it has not so many");
        Due.same("index 0", ready().neighbour(0, 0), 1);
        Due.same("index 2", ready().neighbour(0, 2), 4);
        Due.same("index 3", ready().neighbour(0, 3), Due.MISSING);
        Due.same("the greatest index", ready().neighbour(0, Integer.MAX_VALUE), Due.MISSING);
        refused(-1, (log, index) -> log.neighbour(0, index));
        refused(Integer.MIN_VALUE, (log, index) -> log.neighbour(0, index));
    }

    private static void whatIsAsked() {
        range("account: what: 0 to 4", 0, 4, 24000, 4 * 2980 + 4 * 2960, LiningLog::account);
        Due.about("count: what: 0 to 10, 20 to 25");
        int[] due = {2, 4, 2, 2, 1, 0, 2, 4, 0, 0, 2960};
        for (int what = 0; what < due.length; what++) {
            Due.same("at " + what, ready().count(what), due[what]);
        }
        int[] settings = {800, 50, 100000, 60, 20000, 20};
        for (int what = 0; what < settings.length; what++) {
            Due.same("at " + (20 + what), ready().count(20 + what), settings[what]);
        }
        for (int beside : new int[] {-1, 11, 15, 19, 26}) {
            refused(beside, LiningLog::count);
        }
        for (int wild : Due.WILD) {
            refused(wild, LiningLog::count);
        }
    }

    private static void scans() {
        range("scanned: number of the scan", 0, 1, 1, 2, (log, scan) -> log.scanned(scan, 0, 4));
        range("scanned: number of a spot", 0, 7, 2980, 2960, (log, spot) -> log.scanned(1, spot, 1));
        range("scanned: what: 0 to 4", 0, 4, 40 + 100000 / 3080, 2, (log, what) -> log.scanned(1, 0, what));
        range("scanned: no such spot, also for the heat of the scan", 0, 7, 2, 2, (log, spot) -> log.scanned(1, spot, 4));
        range("peaks: number of the scan", 0, 1, 1, 1, LiningLog::peaks);
        range("trend: number of the spot", 0, 7, 1000, 2000, LiningLog::trend);
        range("heatsByTrend: number of the spot", 0, 7, 100 * 2180 / 1000, 100 * 2160 / 2000, LiningLog::heatsByTrend);
    }

    private static void plans() {
        // Ring 1 stands at 2960 and wears by 10 or 30 a heat, or by 20 or 30; the limit is 800.
        range("heatsLeft: temperature: 1400 to 1800", 1400, 1800, 217, 73,
                (log, temperature) -> log.heatsLeft(temperature, 0));
        range("heatsLeft: slag: 0 to 100", 0, 100, 109, 73, (log, slag) -> log.heatsLeft(1600, slag));
        range("firstThrough: temperature: 1400 to 1800", 1400, 1800, 4, 4,
                (log, temperature) -> log.firstThrough(temperature, 0));
        range("firstThrough: slag: 0 to 100", 0, 100, 4, 4, (log, slag) -> log.firstThrough(1600, slag));
        range("bestSpot: amount: 1 to 500", 1, 500, 0, 0, (log, amount) -> log.bestSpot(amount, 1600, 0));
        range("bestSpot: temperature: 1400 to 1800", 1400, 1800, 0, 0,
                (log, temperature) -> log.bestSpot(1, temperature, 0));
        range("bestSpot: slag: 0 to 100", 0, 100, 0, 0, (log, slag) -> log.bestSpot(1, 1600, slag));
        range("wear: number of the spot", 0, 7, 10, 20, (log, spot) -> log.wear(spot, 1600, 0));
        range("wear: temperature: 1400 to 1800", 1400, 1800, 10, 30, (log, temperature) -> log.wear(4, temperature, 0));
        range("wear: slag: 0 to 100", 0, 100, 20, 30, (log, slag) -> log.wear(4, 1600, slag));
    }

    private static void characters() {
        range("type: character: 32 to 126", 32, 126, 1, 1, LiningLog::type);
        Due.about("type: character: 32 to 126");
        for (int character = 32; character <= 126; character++) {
            Due.same("character " + character, ready().type(character), 1);
        }
        // Cast to a character these would be letters.
        refused(65536 + 's', LiningLog::type);
        refused('s' - 65536, LiningLog::type);
    }

    /** A line is right at both ends of its number's range, and a fault beyond, where run is NOT_POSSIBLE. */
    private static void line(String sentence, String before, String behind, int low, int high) {
        Due.about("lines: " + sentence);
        for (int value : new int[] {low, high}) {
            LiningLog log = ready();
            Due.text(log, before + value + behind);
            Due.same("fault() of " + value, log.fault(), Due.MISSING);
            Due.same("run() of " + value, log.run(), 1);
        }
        for (int value : new int[] {low - 1, high + 1}) {
            if (value >= 0) {
                LiningLog log = ready();
                Due.text(log, before + value + behind);
                Due.same("fault() of " + value, log.fault(), 0);
                Due.same("run() of " + value, log.run(), Due.IMPOSSIBLE);
                log.clearText();
                Due.same("run() of " + value, Seen.story(log), UNTOUCHED);
            }
        }
    }

    private static void numbersOfLines() {
        line("a temperature", "h", ",0;", 1400, 1800);
        line("a slag number", "h1600,", ";", 0, 100);
        line("a spot", "g", ",1;", 0, 7);
        line("an amount", "g0,", ";", 1, 500);
        line("a ring", "r", ";", 0, 1);
    }

    private static void spotsAndRings(int rings, int sectors) {
        Due.about("If there is no spot, ring or scan with a certain number, this is INVALID_ARGUMENT");
        int last = rings * sectors - 1;
        LiningLog log = Due.lining(rings, sectors);
        log.scan();
        log.heat(1600, 0);
        log.scan();
        Due.same("last spot", log.spot(last, 0), 2990);
        Due.same("no spot", log.spot(last + 1, 0), Due.INVALID);
        Due.same("last neighbour", log.neighbour(last, 0) >= 0 ? 1 : 0, 1);
        Due.same("no neighbour", log.neighbour(last + 1, 0), Due.INVALID);
        Due.same("last wear", log.wear(last, 1600, 0), 10);
        Due.same("no wear", log.wear(last + 1, 1600, 0), Due.INVALID);
        Due.same("last trend", log.trend(last), 1000);
        Due.same("no trend", log.trend(last + 1), Due.INVALID);
        Due.same("last heats", log.heatsByTrend(last), 219);
        Due.same("no heats", log.heatsByTrend(last + 1), Due.INVALID);
        Due.same("last scanned", log.scanned(0, last, 1), 3000);
        Due.same("none scanned", log.scanned(0, last + 1, 1), Due.INVALID);
        Due.text(log, "g" + (last + 1) + ",1;");
        Due.same("a line for no spot", log.fault(), 0);
        Due.text(log, "g" + last + ",1;");
        Due.same("a line for the last spot", log.fault(), Due.MISSING);
        Due.text(log, "r" + rings + ";");
        Due.same("a line for no ring", log.fault(), 0);
        Due.text(log, "r" + (rings - 1) + ";");
        Due.same("a line for the last ring", log.fault(), Due.MISSING);
        Due.same("gun no spot", log.gun(last + 1, 5), Due.INVALID);
        Due.same("gun the last spot", log.gun(last, 5), 3);
        Due.same("no ring", log.rate(rings, 11), Due.INVALID);
        Due.same("last ring", log.rate(rings - 1, 11), 10);
        Due.same("rate of the last spot", log.spot(last, 7), 11);
        Due.same("reline no ring", log.reline(rings), Due.INVALID);
        Due.same("reline the last ring", log.reline(rings - 1), 2990 * sectors + 3);
    }

    private static void scansThatAreKept() {
        LiningLog log = Due.lining(1, 3);
        for (int made = 0; made <= 6; made++) {
            int kept = Math.min(made, 4);
            Due.about("number of the scan, 0 for the oldest one that is kept, of " + kept);
            for (int scan = -1; scan <= 5; scan++) {
                boolean there = scan >= 0 && scan < kept;
                Due.same("scanned " + scan, log.scanned(scan, 0, 4), there ? made - kept + scan : Due.INVALID);
                Due.same("peaks of " + scan, log.peaks(scan), there ? 0 : Due.INVALID);
            }
            log.scan();
            log.heat(1600, 0);
        }
    }
}
