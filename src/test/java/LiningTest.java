/** Promises 1 to 4 and 9 to 13: the lining, its settings, the history and what is asked of it. */
public final class LiningTest {
    private LiningTest() {
    }

    public static void main(String[] args) {
        promise1NewObject();
        promise2Begin();
        promise2BeginsAnew();
        promise2Refused();
        promise3Rate();
        promise4Set();
        promise9UndoKeepsFour();
        promise9UndoRestores();
        promise9LeavesTheReason();
        promise9ErrorsAreNoChanges();
        promise10Count();
        promise10EachSpotCounts();
        largestLining();
        promise11Spot();
        promise12Neighbour();
        promise13Account();
        Due.end("LiningTest");
    }

    private static void firstLining(String when, LiningLog log, int rings, int sectors) {
        int[] counts = {rings, sectors, 0, 0, 1, 0, 0};
        for (int what = 0; what < counts.length; what++) {
            Due.same(when + " count(" + what + ")", log.count(what), counts[what]);
        }
        Due.same(when + " count(9)", log.count(9), 0);
        Due.same(when + " count(10)", log.count(10), 3000);
        int[] settings = {800, 50, 30000, 60, 20000, 20};
        for (int what = 0; what < settings.length; what++) {
            Due.same(when + " setting " + what, log.count(20 + what), settings[what]);
        }
        int all = 3000 * rings * sectors;
        int[] accounts = {all, 0, 0, 0, all};
        for (int what = 0; what < accounts.length; what++) {
            Due.same(when + " account(" + what + ")", log.account(what), accounts[what]);
        }
        for (int spot = 0; spot < rings * sectors; spot++) {
            Due.same(when + " brick of " + spot, log.spot(spot, 0), 3000);
            Due.same(when + " layer of " + spot, log.spot(spot, 1), 0);
            Due.same(when + " ring of " + spot, log.spot(spot, 6), spot / sectors);
            Due.same(when + " rate of " + spot, log.spot(spot, 7), 10);
        }
        Due.same(when + " spot behind the last", log.spot(rings * sectors, 0), Due.INVALID);
        Due.same(when + " peaks(0)", log.peaks(0), Due.INVALID);
    }

    private static void promise1NewObject() {
        LiningLog log = new LiningLog();
        firstLining("new", log, 3, 6);
        Due.same("states", log.count(7), 0);
        Due.same("length", log.count(8), 0);
        Due.same("reason()", log.reason(), 0);
        Due.same("fault()", log.fault(), Due.MISSING);
        Due.same("undo()", log.undo(), Due.IMPOSSIBLE);
        // Two objects share nothing.
        LiningLog other = new LiningLog();
        other.rate(0, 7);
        other.heat(1600, 0);
        other.type('s');
        firstLining("beside another", log, 3, 6);
        Due.same("states beside another", log.count(7), 0);
        Due.same("length beside another", log.count(8), 0);
    }

    private static void promise2Begin() {
        for (int rings = 1; rings <= 6; rings++) {
            for (int sectors = 3; sectors <= 10; sectors++) {
                LiningLog log = Due.lining(rings, sectors);
                firstLining("begin(" + rings + ", " + sectors + ")", log, rings, sectors);
                Due.same("states", log.count(7), 1);
            }
        }
    }

    private static void promise2BeginsAnew() {
        LiningLog log = Due.lining(2, 3);
        int[] values = {2000, 3, 1000, 50, 9000, 1};
        for (int what = 0; what < values.length; what++) {
            log.set(what, values[what]);
        }
        log.rate(0, 50);
        log.rate(1, 50);
        log.gun(0, 5);
        Due.heats(log, 3, 1800, 100);
        log.scan();
        log.scan();
        log.reline(-1);
        Due.heats(log, 11, 1800, 100);
        Due.same("over", log.count(5), 1);
        Due.same("campaign", log.count(4), 2);
        log.undo();
        for (int spot = 0; spot < 6; spot++) {
            Due.same("gun(" + spot + ", 100)", log.gun(spot, 100), 60);
        }
        Due.text(log, "s;x");
        Due.same("begin(4, 5)", log.begin(4, 5), 20);
        firstLining("anew", log, 4, 5);
        Due.same("the text stays", log.count(8), 3);
        Due.same("trend(0)", log.trend(0), Due.MISSING);
        Due.same("heat(1600, 0)", log.heat(1600, 0), 200);
    }

    private static void promise2Refused() {
        LiningLog log = Due.lining(2, 4);
        int[][] refused = {{0, 3}, {7, 3}, {-1, 3}, {1, 2}, {1, 11}, {6, 0}, {6, -3}, {0, 0}, {7, 11}};
        for (int[] size : refused) {
            Due.same("begin(" + size[0] + ", " + size[1] + ")", log.begin(size[0], size[1]), Due.INVALID);
        }
        for (int wild : Due.WILD) {
            Due.same("begin(" + wild + ", 3)", log.begin(wild, 3), Due.INVALID);
            Due.same("begin(1, " + wild + ")", log.begin(1, wild), Due.INVALID);
        }
        firstLining("refused", log, 2, 4);
        Due.same("states", log.count(7), 1);
    }

    private static void promise3Rate() {
        LiningLog log = Due.lining(2, 3);
        Due.same("rate(0, 50)", log.rate(0, 50), 10);
        Due.same("rate(0, 0)", log.rate(0, 0), 50);
        Due.same("rate(1, 7)", log.rate(1, 7), 10);
        Due.same("rate(0, 3)", log.rate(0, 3), 0);
        Due.same("states", log.count(7), 4);
        int[][] refused = {{-1, 5}, {2, 5}, {0, -1}, {0, 51}, {2, 51}};
        for (int[] call : refused) {
            Due.same("rate(" + call[0] + ", " + call[1] + ")", log.rate(call[0], call[1]), Due.INVALID);
        }
        for (int wild : Due.WILD) {
            Due.same("rate(" + wild + ", 5)", log.rate(wild, 5), Due.INVALID);
            Due.same("rate(0, " + wild + ")", log.rate(0, wild), Due.INVALID);
        }
        Due.same("rate of spot 2", log.spot(2, 7), 3);
        Due.same("rate of spot 3", log.spot(3, 7), 7);
        Due.same("undo()", log.undo(), 3);
        Due.same("rate of spot 2, undone", log.spot(2, 7), 0);
        Due.same("wear(3, 1600, 0)", log.wear(3, 1600, 0), 7);
    }

    private static void promise4Set() {
        LiningLog log = new LiningLog();
        int[] lowest = {0, 1, 1000, 50, 0, 1};
        int[] highest = {2000, 500, 100000, 1000, 100000, 100};
        int[] first = {800, 50, 30000, 60, 20000, 20};
        for (int what = 0; what < 6; what++) {
            Due.same("lowest of " + what, log.set(what, lowest[what]), first[what]);
            Due.same("below " + what, log.set(what, lowest[what] - 1), Due.INVALID);
            Due.same("highest of " + what, log.set(what, highest[what]), lowest[what]);
            Due.same("above " + what, log.set(what, highest[what] + 1), Due.INVALID);
            for (int wild : Due.WILD) {
                Due.same("set(" + what + ", " + wild + ")", log.set(what, wild), Due.INVALID);
            }
            Due.same("setting " + what, log.count(20 + what), highest[what]);
            Due.same("the same again", log.set(what, highest[what]), highest[what]);
        }
        Due.same("set(-1, 100)", log.set(-1, 100), Due.INVALID);
        Due.same("set(6, 100)", log.set(6, 100), Due.INVALID);
        for (int wild : Due.WILD) {
            Due.same("set(" + wild + ", 100)", log.set(wild, 100), Due.INVALID);
        }
        for (int what = 0; what < 6; what++) {
            Due.same("setting " + what, log.count(20 + what), highest[what]);
        }
        Due.same("states", log.count(7), 4);
    }

    private static void promise9UndoKeepsFour() {
        LiningLog log = new LiningLog();
        for (int value = 1; value <= 6; value++) {
            log.rate(0, value);
            Due.same("states", log.count(7), Math.min(value, 4));
        }
        for (int left = 3; left >= 0; left--) {
            Due.same("undo()", log.undo(), left);
            Due.same("rate undone", log.spot(0, 7), left + 2);
            Due.same("states left", log.count(7), left);
        }
        Due.same("undo() of none", log.undo(), Due.IMPOSSIBLE);
        Due.same("rate stays", log.spot(0, 7), 2);
        // The history goes on after it was emptied, and half emptied.
        log.rate(0, 30);
        log.rate(0, 31);
        log.undo();
        log.rate(0, 32);
        Due.same("states", log.count(7), 2);
        Due.same("undo()", log.undo(), 1);
        Due.same("rate undone", log.spot(0, 7), 30);
        Due.same("undo()", log.undo(), 0);
        Due.same("rate undone", log.spot(0, 7), 2);
    }

    private static void promise9UndoRestores() {
        String[] changes = {"begin", "rate", "set", "heat", "gun", "reline", "relineAll", "scan", "run"};
        for (String change : changes) {
            LiningLog log = Due.lining(2, 3);
            log.set(2, 100000);
            log.gun(1, 100);
            log.heat(1600, 0);
            log.scan();
            Due.text(log, "s;r1;");
            String before = Seen.lining(log);
            make(log, change);
            int states = log.count(7);
            Due.same(change + " changes nothing", Seen.lining(log).equals(before) ? 1 : 0, 0);
            Due.same("undo() of " + change, log.undo(), states - 1);
            Due.same("undo() of " + change, Seen.lining(log), before);
            Due.same("text after undo of " + change, log.count(8), 5);
        }
    }

    private static void promise9LeavesTheReason() {
        LiningLog log = Due.lining(2, 3);
        log.set(4, 0);
        Due.text(log, "g0,1;");
        log.run();
        Due.same("reason()", log.reason(), 3);
        log.undo();
        log.undo();
        Due.same("reason() stays", log.reason(), 3);
    }

    private static void make(LiningLog log, String change) {
        switch (change) {
            case "begin":
                log.begin(5, 4);
                break;
            case "rate":
                log.rate(1, 33);
                break;
            case "set":
                log.set(5, 99);
                break;
            case "heat":
                log.heat(1700, 10);
                break;
            case "gun":
                log.gun(5, 50);
                break;
            case "reline":
                log.reline(0);
                break;
            case "relineAll":
                log.reline(-1);
                break;
            case "scan":
                log.scan();
                break;
            default:
                log.run();
        }
    }

    private static void promise9ErrorsAreNoChanges() {
        LiningLog log = Due.lining(1, 3);
        log.begin(0, 3);
        log.rate(0, 51);
        log.set(0, -1);
        log.heat(1399, 0);
        log.gun(0, 501);
        log.reline(1);
        Due.text(log, "x");
        log.run();
        log.count(99);
        log.heatsLeft(1600, 0);
        log.firstThrough(1600, 0);
        log.bestSpot(100, 1600, 0);
        log.fault();
        log.clearText();
        Due.same("states", log.count(7), 1);
    }

    private static void promise10Count() {
        LiningLog log = Due.lining(4, 7);
        Due.same("count(0)", log.count(0), 4);
        Due.same("count(1)", log.count(1), 7);
        log.set(5, 1);
        log.heat(1600, 0);
        log.heat(1600, 0);
        log.reline(-1);
        log.heat(1600, 0);
        Due.same("heats since begun", log.count(2), 3);
        Due.same("heats of the campaign", log.count(3), 1);
        Due.same("campaign", log.count(4), 2);
        Due.same("over", log.count(5), 0);
        log.scan();
        Due.same("scans", log.count(6), 1);
        Due.same("states", log.count(7), 4);
        log.type('a');
        Due.same("length", log.count(8), 1);
        log.gun(2, 100);
        log.gun(9, 1);
        Due.same("layered: one got nothing that stays", log.count(9), 1);
        log.gun(9, 3);
        Due.same("layered", log.count(9), 2);
        Due.same("least", log.count(10), 2990);
        log.reline(0);
        Due.same("layered, relined", log.count(9), 1);
        log.set(0, 2000);
        log.rate(3, 50);
        Due.heats(log, 10, 1800, 100);
        Due.same("over", log.count(5), 1);
        Due.same("least in the last ring", log.count(10), 1990);
        int[] settings = {2000, 50, 30000, 60, 19896, 1};
        for (int what = 0; what < 6; what++) {
            Due.same("setting " + what, log.count(20 + what), settings[what]);
        }
        for (int what : new int[] {-1, 11, 12, 19, 26, 27}) {
            Due.same("count(" + what + ")", log.count(what), Due.INVALID);
        }
        for (int wild : Due.WILD) {
            Due.same("count(" + wild + ")", log.count(wild), Due.INVALID);
        }
    }

    private static void promise10EachSpotCounts() {
        for (int thin = 0; thin < 6; thin++) {
            LiningLog log = Due.lining(2, 3);
            for (int spot = 0; spot < 6; spot++) {
                if (spot != thin) {
                    log.gun(spot, 100);
                }
            }
            Due.same("all but " + thin + " are thicker", log.count(10), 3000);
            Due.same("all but " + thin + " have a layer", log.count(9), 5);
            Due.same("left", log.account(4), 18300);
            log.gun(thin, 50);
            Due.same("the least is " + thin, log.count(10), 3030);
            log.reline(-1);
            log.gun(thin, 50);
            Due.same("only " + thin, log.count(9), 1);
            Due.same("left", log.account(4), 18030);
        }
    }

    /** The largest lining fills its rows to the last element. */
    private static void largestLining() {
        LiningLog log = Due.lining(6, 10);
        log.set(2, 100000);
        log.set(5, 1);
        log.set(1, 500);
        Due.same("gun(59, 500)", log.gun(59, 500), 400);
        Due.same("heat(1600, 0)", log.heat(1600, 0), 59 * 10 + 20);
        Due.same("layer behind the rest", log.spot(59, 1), 190);
        Due.same("layers", log.count(9), 1);
        Due.same("least", log.count(10), 2990);
        Due.same("left", log.account(4), 59 * 2990 + 3190);
        Due.same("scan()", log.scan(), 60);
        Due.same("peaks(0)", log.peaks(0), 1);
        Due.same("the thick one", log.scanned(0, 59, 1), 3190);
        Due.same("heatsLeft(1800, 100)", log.heatsLeft(1800, 100), 110);
        Due.same("firstThrough(1800, 100)", log.firstThrough(1800, 100), 0);
        Due.same("bestSpot(500, 1800, 100)", log.bestSpot(500, 1800, 100), 0);
        Due.same("reline(5)", log.reline(5), 9 * 2990 + 3190);
        Due.same("reline(-1)", log.reline(-1), 50 * 2990 + 30000);
        Due.same("undo()", log.undo(), 3);
        Due.same("ring 4", log.spot(49, 2), 2990);
        Due.same("ring 5", log.spot(50, 2), 3000);
        Due.balanced("largest", log);
        log.rate(5, 50);
        log.heat(1800, 100);
        log.scan();
        Due.same("the last ring is the hottest", log.scanned(1, 50, 3), 1);
        Due.same("its next spot", log.scanned(1, 51, 3), 0);
        Due.same("spot 0 lies far from it, among equal ones", log.scanned(1, 0, 3), 1);
        Due.same("peaks(1)", log.peaks(1), 2);
    }

    private static void promise11Spot() {
        LiningLog log = Due.lining(2, 4);
        log.rate(1, 20);
        log.gun(5, 100);
        // 60 stays cold: 40 + 30000 / 3160 = 49.
        int[] gunned = {3000, 60, 3060, 49, 60, 3, 1, 20};
        int[] beside = {3000, 0, 3000, 49, 0, 3, 1, 20};
        int[] above = {3000, 0, 3000, 49, 0, 3, 0, 10};
        for (int what = 0; what < 8; what++) {
            Due.same("spot(5, " + what + ")", log.spot(5, what), gunned[what]);
            Due.same("spot(4, " + what + ")", log.spot(4, what), beside[what]);
            Due.same("spot(1, " + what + ")", log.spot(1, what), above[what]);
        }
        log.gun(4, 50);
        log.gun(6, 50);
        log.gun(1, 50);
        Due.same("out of all its neighbours", log.spot(5, 4), 30);
        log.gun(3, 25);
        log.gun(0, 30);
        log.gun(7, 30);
        // Spot 3 has 15 of layer, its neighbours 0, 2 and 7 have 18, 0 and 18.
        Due.same("the least is in the ring", log.spot(3, 4), 15);
        log.gun(2, 100);
        Due.same("spot 3 lies deepest", log.spot(3, 4), -3);
        for (int deep = 0; deep < 9; deep++) {
            standsOutBeyond(deep);
        }
        LiningLog hot = Due.lining(1, 3);
        hot.set(2, 31000);
        Due.same("temperature", hot.spot(0, 3), 50);
        hot.set(2, 30999);
        Due.same("temperature, rounded down", hot.spot(0, 3), 49);
        LiningLog bare = bareLining();
        Due.same("temperature of a bare shell", bare.spot(0, 3), 40 + 30000 / 100);
        for (int what : new int[] {-1, 8, 9}) {
            Due.same("spot(0, " + what + ")", log.spot(0, what), Due.INVALID);
        }
        Due.same("spot(-1, 0)", log.spot(-1, 0), Due.INVALID);
        Due.same("spot(8, 0)", log.spot(8, 0), Due.INVALID);
        for (int wild : Due.WILD) {
            Due.same("spot(" + wild + ", 0)", log.spot(wild, 0), Due.INVALID);
            Due.same("spot(0, " + wild + ")", log.spot(0, wild), Due.INVALID);
        }
    }

    /** In a lining of 3 * 3 all spots but one are gunned; what stands out beyond it are its neighbours. */
    private static void standsOutBeyond(int deep) {
        LiningLog log = Due.lining(3, 3);
        for (int spot = 0; spot < 9; spot++) {
            if (spot != deep) {
                log.gun(spot, 100);
            }
        }
        for (int spot = 0; spot < 9; spot++) {
            boolean sameRing = spot / 3 == deep / 3;
            boolean nextRing = spot % 3 == deep % 3 && Math.abs(spot - deep) == 3;
            int want = spot == deep ? -60 : sameRing || nextRing ? 60 : 0;
            Due.same("spot " + spot + " beside " + deep, log.spot(spot, 4), want);
        }
    }

    private static LiningLog bareLining() {
        LiningLog log = Due.lining(1, 3);
        log.set(0, 0);
        log.rate(0, 50);
        Due.heats(log, 30, 1800, 100);
        return log;
    }

    private static void promise12Neighbour() {
        LiningLog log = Due.lining(1, 3);
        neighbours(log, 0, 1, 2);
        neighbours(log, 1, 0, 2);
        neighbours(log, 2, 0, 1);
        log.begin(3, 5);
        neighbours(log, 0, 1, 4, 5);
        neighbours(log, 4, 0, 3, 9);
        neighbours(log, 5, 0, 6, 9, 10);
        neighbours(log, 7, 2, 6, 8, 12);
        neighbours(log, 9, 4, 5, 8, 14);
        neighbours(log, 10, 5, 11, 14);
        neighbours(log, 14, 9, 10, 13);
        log.begin(6, 10);
        neighbours(log, 59, 49, 50, 58);
        neighbours(log, 30, 20, 31, 39, 40);
        Due.same("neighbour(-1, 0)", log.neighbour(-1, 0), Due.INVALID);
        Due.same("neighbour(60, 0)", log.neighbour(60, 0), Due.INVALID);
        Due.same("neighbour(60, 9)", log.neighbour(60, 9), Due.INVALID);
        for (int wild : Due.WILD) {
            Due.same("neighbour(" + wild + ", 0)", log.neighbour(wild, 0), Due.INVALID);
            Due.same("neighbour(0, " + wild + ")", log.neighbour(0, wild),
                    wild < 0 ? Due.INVALID : Due.MISSING);
        }
    }

    private static void neighbours(LiningLog log, int spot, int... want) {
        for (int index = 0; index < want.length; index++) {
            Due.same("neighbour(" + spot + ", " + index + ")", log.neighbour(spot, index), want[index]);
        }
        Due.same("neighbours of " + spot, log.spot(spot, 5), want.length);
        Due.same("one more of " + spot, log.neighbour(spot, want.length), Due.MISSING);
        Due.same("neighbour(" + spot + ", -1)", log.neighbour(spot, -1), Due.INVALID);
    }

    private static void promise13Account() {
        LiningLog log = Due.lining(2, 3);
        log.set(5, 2);
        Due.same("gun(0, 25)", log.gun(0, 25), 15);
        log.rate(0, 0);
        log.heat(1600, 0);
        log.heat(1600, 0);
        // The second heat's rest breaks 7 of 15 out; ring 1 lost 3 * 10 twice.
        int[] worn = {18000, 15, 60, 7, 17948};
        same("worn", log, worn);
        Due.same("reline(1)", log.reline(1), 8940);
        same("relined", log, new int[] {27000, 15, 60, 8947, 18008});
        Due.same("reline(-1)", log.reline(-1), 18008);
        same("all relined", log, new int[] {45000, 15, 60, 26955, 18000});
        Due.same("account(-1)", log.account(-1), Due.INVALID);
        Due.same("account(5)", log.account(5), Due.INVALID);
        for (int wild : Due.WILD) {
            Due.same("account(" + wild + ")", log.account(wild), Due.INVALID);
        }
    }

    private static void same(String when, LiningLog log, int[] want) {
        for (int what = 0; what < want.length; what++) {
            Due.same(when + " account(" + what + ")", log.account(what), want[what]);
        }
        Due.balanced(when, log);
    }
}
