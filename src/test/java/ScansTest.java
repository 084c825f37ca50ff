/** Promises 8 and 14 to 17: scans, their peaks, and the trend of two of them. */
public final class ScansTest {
    private ScansTest() {
    }

    public static void main(String[] args) {
        promise8Scan();
        promise8KeepsFour();
        promise14Scanned();
        promise14ThresholdOfNow();
        promise14Refused();
        promise15Peaks();
        promise16Trend();
        promise16Unknown();
        promise17HeatsByTrend();
        promise17Unknown();
        Due.end("ScansTest");
    }

    /** A ring of four: temperatures 72, 68, 72, 70 by thicknesses 3000, 3400, 3000, 3200. */
    private static LiningLog unevenRing() {
        LiningLog log = Due.lining(1, 4);
        log.set(1, 500);
        log.set(2, 100000);
        Due.same("gun(1, 500)", log.gun(1, 500), 400);
        Due.same("gun(3, 250)", log.gun(3, 250), 200);
        return log;
    }

    private static void promise8Scan() {
        LiningLog log = unevenRing();
        Due.same("all hot", log.scan(), 4);
        log.set(3, 70);
        Due.same("70 is hot at 70", log.scan(), 3);
        log.set(3, 71);
        Due.same("70 is not at 71", log.scan(), 2);
        log.set(3, 73);
        Due.same("none", log.scan(), 0);
        Due.same("scans", log.count(6), 4);
        Due.same("states", log.count(7), 4);
        Due.same("undo()", log.undo(), 3);
        Due.same("scans, undone", log.count(6), 3);
    }

    private static void promise8KeepsFour() {
        LiningLog log = Due.lining(1, 3);
        log.rate(0, 0);
        log.set(2, 1000);
        log.scan();
        log.begin(1, 3);
        for (int made = 1; made <= 6; made++) {
            log.heat(1600, 0);
            // The shell factor grows with each scan, so that no two have the same temperatures.
            Due.same("factor", log.set(2, made == 6 ? 100000 : 16000 * made), made == 1 ? 30000 : 16000 * made - 16000);
            log.scan();
            Due.same("scans", log.count(6), Math.min(made, 4));
        }
        for (int scan = 0; scan < 4; scan++) {
            Due.same("heat of scan " + scan, log.scanned(scan, 0, 4), scan + 3);
            Due.same("thickness of scan " + scan, log.scanned(scan, 0, 1), 3000 - 10 * (scan + 3));
        }
        log.undo();
        Due.same("the dropped one is back", log.scanned(0, 2, 4), 2);
        Due.same("and its thickness", log.scanned(0, 2, 1), 2980);
        Due.same("and its temperature", log.scanned(0, 2, 0), 40 + 32000 / 3080);
        Due.same("and the next one's", log.scanned(1, 2, 0), 40 + 48000 / 3070);
        Due.same("and the latest one's", log.scanned(3, 2, 0), 40 + 80000 / 3050);
        Due.same("the latest is gone", log.scanned(3, 2, 4), 5);
    }

    private static void promise14Scanned() {
        LiningLog log = unevenRing();
        log.heat(1600, 0);
        log.undo();
        log.scan();
        int[] temperatures = {72, 68, 72, 70};
        int[] thicknesses = {3000, 3400, 3000, 3200};
        int[] peaks = {1, 0, 1, 0};
        for (int spot = 0; spot < 4; spot++) {
            Due.same("temperature", log.scanned(0, spot, 0), temperatures[spot]);
            Due.same("thickness", log.scanned(0, spot, 1), thicknesses[spot]);
            Due.same("hot", log.scanned(0, spot, 2), 1);
            Due.same("peak", log.scanned(0, spot, 3), peaks[spot]);
            Due.same("heat", log.scanned(0, spot, 4), 0);
        }
        // What comes later does not change what the scan recorded.
        log.set(2, 1000);
        log.reline(-1);
        log.heat(1600, 0);
        log.scan();
        for (int spot = 0; spot < 4; spot++) {
            Due.same("temperature then", log.scanned(0, spot, 0), temperatures[spot]);
            Due.same("thickness then", log.scanned(0, spot, 1), thicknesses[spot]);
            Due.same("heat then", log.scanned(0, spot, 4), 0);
            Due.same("temperature later", log.scanned(1, spot, 0), 40);
            Due.same("thickness later", log.scanned(1, spot, 1), 2990);
            Due.same("heat later", log.scanned(1, spot, 4), 1);
        }
    }

    private static void promise14ThresholdOfNow() {
        LiningLog log = unevenRing();
        log.scan();
        log.set(3, 71);
        int[] hot = {1, 0, 1, 0};
        for (int spot = 0; spot < 4; spot++) {
            Due.same("hot at 71", log.scanned(0, spot, 2), hot[spot]);
            Due.same("peak at 71", log.scanned(0, spot, 3), hot[spot]);
        }
        log.set(3, 73);
        for (int spot = 0; spot < 4; spot++) {
            Due.same("hot at 73", log.scanned(0, spot, 2), 0);
            Due.same("peak at 73", log.scanned(0, spot, 3), 0);
        }
        log.set(3, 72);
        Due.same("72 at 72", log.scanned(0, 0, 2), 1);
    }

    private static void promise14Refused() {
        LiningLog log = unevenRing();
        Due.same("no scan yet", log.scanned(0, 0, 0), Due.INVALID);
        log.scan();
        int[][] refused = {{-1, 0, 0}, {1, 0, 0}, {0, -1, 0}, {0, 4, 0}, {0, 0, -1}, {0, 0, 5}, {0, 4, 4}};
        for (int[] call : refused) {
            Due.same("scanned(" + call[0] + ", " + call[1] + ", " + call[2] + ")",
                    log.scanned(call[0], call[1], call[2]), Due.INVALID);
        }
        for (int wild : Due.WILD) {
            Due.same("scanned(" + wild + ", 0, 0)", log.scanned(wild, 0, 0), Due.INVALID);
            Due.same("scanned(0, " + wild + ", 0)", log.scanned(0, wild, 0), Due.INVALID);
            Due.same("scanned(0, 0, " + wild + ")", log.scanned(0, 0, wild), Due.INVALID);
        }
    }

    private static void promise15Peaks() {
        LiningLog log = unevenRing();
        log.scan();
        Due.same("72 beside 68 and 70, twice", log.peaks(0), 2);
        log.reline(-1);
        log.scan();
        Due.same("all equal: the lowest", log.peaks(1), 1);
        Due.same("spot 0", log.scanned(1, 0, 3), 1);
        Due.same("spot 2 has none lower but equal ones", log.scanned(1, 2, 3), 0);
        Due.same("the older one", log.peaks(0), 2);
        // Gunned by 100 beside it a spot of 3000 has 72, the others 71: a degree is enough.
        log.reline(-1);
        for (int spot : new int[] {0, 1, 2}) {
            Due.same("gun(" + spot + ", 125)", log.gun(spot, 125), 100);
        }
        log.scan();
        Due.same("temperature of 2", log.scanned(2, 2, 0), 71);
        Due.same("temperature of 3", log.scanned(2, 3, 0), 72);
        Due.same("3 is a peak", log.scanned(2, 3, 3), 1);
        Due.same("0 is none beside it", log.scanned(2, 0, 3), 0);
        Due.same("1 is none beside 0", log.scanned(2, 1, 3), 0);
        Due.same("one peak", log.peaks(2), 1);
        log.undo();
        log.set(3, 73);
        Due.same("none is hot", log.peaks(0), 0);
        Due.same("peaks(-1)", log.peaks(-1), Due.INVALID);
        Due.same("peaks(2)", log.peaks(2), Due.INVALID);
        for (int wild : Due.WILD) {
            Due.same("peaks(" + wild + ")", log.peaks(wild), Due.INVALID);
        }
        // Rings are neighbours too: thick outer rings leave a peak in the middle alone.
        LiningLog rings = Due.lining(3, 3);
        rings.set(2, 100000);
        for (int spot : new int[] {0, 1, 2, 4, 6, 7, 8}) {
            Due.same("gun(" + spot + ", 500)", rings.gun(spot, 500), 400);
        }
        rings.scan();
        Due.same("3 and 5 are equal: 3 alone", rings.peaks(0), 1);
        Due.same("spot 3", rings.scanned(0, 3, 3), 1);
        rings.gun(3, 500);
        rings.scan();
        // All but 5 have 68 now: the lowest of them has equal neighbours, but none of a lower number.
        int[] peaks = {1, 0, 0, 0, 0, 1, 0, 0, 0};
        for (int spot = 0; spot < peaks.length; spot++) {
            Due.same("peak at " + spot, rings.scanned(1, spot, 3), peaks[spot]);
        }
        Due.same("two peaks", rings.peaks(1), 2);
    }

    private static void promise16Trend() {
        LiningLog log = Due.lining(1, 3);
        log.scan();
        Due.heats(log, 3, 1600, 0);
        log.scan();
        Due.same("30 in 3 heats", log.trend(0), 1000);
        log.rate(0, 1);
        Due.heats(log, 3, 1600, 0);
        log.rate(0, 0);
        Due.heats(log, 4, 1600, 0);
        log.scan();
        Due.same("3 in 7 heats: 42.8", log.trend(1), 42);
        log.gun(1, 2);
        Due.heats(log, 3, 1600, 0);
        log.scan();
        Due.same("-1 in 3 heats: -33.3", log.trend(1), -34);
        Due.same("0 in 3 heats", log.trend(2), 0);
        log.gun(1, 2);
        log.heat(1600, 0);
        Due.same("of the scans, not of now", log.trend(1), -34);
        log.scan();
        Due.same("the latest two", log.trend(1), -100);
        Due.same("trend(-1)", log.trend(-1), Due.INVALID);
        Due.same("trend(3)", log.trend(3), Due.INVALID);
        for (int wild : Due.WILD) {
            Due.same("trend(" + wild + ")", log.trend(wild), Due.INVALID);
        }
    }

    private static void promise16Unknown() {
        LiningLog log = Due.lining(1, 3);
        Due.same("no scan", log.trend(0), Due.MISSING);
        Due.same("no scan, no spot", log.trend(3), Due.INVALID);
        log.scan();
        Due.same("one scan", log.trend(0), Due.MISSING);
        log.heat(1600, 0);
        log.scan();
        Due.same("two scans", log.trend(0), 1000);
        log.scan();
        Due.same("of the same heat", log.trend(0), Due.MISSING);
        // A campaign's heats begin anew, those of the lining do not.
        log.reline(-1);
        log.heat(1600, 0);
        log.scan();
        Due.same("2990 in both, over two campaigns", log.trend(0), 0);
    }

    private static void promise17HeatsByTrend() {
        LiningLog log = Due.lining(1, 3);
        log.scan();
        Due.heats(log, 3, 1600, 0);
        log.scan();
        Due.same("100 * 2170 / 1000", log.heatsByTrend(0), 217);
        log.heat(1600, 0);
        Due.same("the thickness of now", log.heatsByTrend(0), 216);
        log.set(0, 2000);
        Due.same("the limit of now", log.heatsByTrend(0), 96);
        log.set(0, 1009);
        Due.same("195.1", log.heatsByTrend(0), 195);
        log.set(0, 1001);
        Due.same("195.9", log.heatsByTrend(0), 195);
        Due.same("heatsByTrend(-1)", log.heatsByTrend(-1), Due.INVALID);
        Due.same("heatsByTrend(3)", log.heatsByTrend(3), Due.INVALID);
        for (int wild : Due.WILD) {
            Due.same("heatsByTrend(" + wild + ")", log.heatsByTrend(wild), Due.INVALID);
        }
    }

    private static void promise17Unknown() {
        LiningLog slow = Due.lining(1, 3);
        slow.rate(0, 1);
        slow.scan();
        slow.heat(1600, 0);
        slow.rate(0, 0);
        Due.heats(slow, 99, 1600, 0);
        slow.scan();
        Due.same("1 in 100 heats", slow.trend(0), 1);
        Due.same("just above 0", slow.heatsByTrend(0), 219900);
        LiningLog log = Due.lining(1, 3);
        Due.same("no scan", log.heatsByTrend(0), Due.MISSING);
        log.scan();
        log.scan();
        Due.same("the same heat", log.heatsByTrend(0), Due.MISSING);
        log.gun(1, 5);
        log.rate(0, 0);
        log.heat(1600, 0);
        log.scan();
        Due.same("trend 0", log.heatsByTrend(0), Due.MISSING);
        Due.same("a trend below 0", log.trend(1), -300);
        Due.same("leaves nothing to tell", log.heatsByTrend(1), Due.MISSING);
        LiningLog thin = Due.lining(1, 3);
        thin.rate(0, 50);
        thin.scan();
        Due.heats(thin, 10, 1800, 100);
        thin.scan();
        thin.set(0, 2000);
        Due.same("at the limit", thin.heatsByTrend(0), 0);
        thin.rate(0, 1);
        thin.heat(1600, 0);
        Due.same("below the limit", thin.heatsByTrend(0), Due.MISSING);
    }
}
