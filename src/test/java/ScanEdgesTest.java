/** Scans: how many are kept, what is just hot, what is just a peak, and the trend of the latest two. */
public final class ScanEdgesTest {
    /** An amount that leaves a hot spot a degree, or two, colder than the others: 71 or 70, not 72. */
    private static final int ONE_DEGREE = 100;
    private static final int TWO_DEGREES = 250;

    private ScanEdgesTest() {
    }

    public static void main(String[] args) {
        latestFourAreKept();
        fiveInOneText();
        numberOfTheHeat();
        hotByTheThresholdOfNow();
        countOfHotSpots();
        peakIfItIsHot();
        noNeighbourHigher();
        noEqualOneOfALowerNumber();
        peaksAround();
        peaksAcrossRings();
        peaksOfASmallerLining();
        trendOfTwoScans();
        trendOfTheLatestTwo();
        trendOfTheSameHeat();
        trendRoundedDown();
        heatsByTrendAboveZero();
        heatsByTrendAtTheLimit();
        heatsByTrendRoundedDown();
        Due.end("ScanEdgesTest");
    }

    /** All spots have 72 degrees. */
    private static LiningLog hot(int rings, int sectors) {
        LiningLog log = Due.lining(rings, sectors);
        log.set(2, 100000);
        return log;
    }

    private static void peaks(LiningLog log, int... due) {
        log.scan();
        int latest = log.count(6) - 1;
        int sum = 0;
        for (int spot = 0; spot < due.length; spot++) {
            Due.same("peak at " + spot, log.scanned(latest, spot, 3), due[spot]);
            sum += due[spot];
        }
        Due.same("peaks", log.peaks(latest), sum);
    }

    private static void latestFourAreKept() {
        Due.about("The latest 4 scans are kept");
        LiningLog log = Due.lining(1, 3);
        Due.same("none yet", log.count(6), 0);
        for (int made = 1; made <= 9; made++) {
            log.heat(1600, 0);
            log.scan();
            int kept = Math.min(made, 4);
            Due.same("kept", log.count(6), kept);
            for (int scan = 0; scan < kept; scan++) {
                int heat = made - kept + 1 + scan;
                Due.same("heat of " + scan, log.scanned(scan, 0, 4), heat);
                Due.same("thickness of " + scan, log.scanned(scan, 0, 1), 3000 - 10 * heat);
            }
        }
        Due.same("undo()", log.undo(), 3);
        Due.same("the dropped one is kept again", log.scanned(0, 0, 4), 5);
        Due.same("the latest is gone", log.scanned(3, 0, 4), 8);
        log.heat(1600, 0);
        log.scan();
        Due.same("the next one drops it again", log.scanned(0, 0, 4), 6);
        Due.same("the next one", log.scanned(3, 2, 1), 2900);
    }

    private static void fiveInOneText() {
        Due.about("The latest 4 scans are kept, those of texts too");
        LiningLog log = Due.lining(1, 3);
        Due.text(log, "s;h1600,0;s;h1600,0;s;h1600,0;s;h1600,0;s;");
        Due.same("run()", log.run(), 9);
        Due.same("kept", log.count(6), 4);
        for (int scan = 0; scan < 4; scan++) {
            Due.same("heat of " + scan, log.scanned(scan, 0, 4), scan + 1);
        }
        Due.same("undo()", log.undo(), 1);
        Due.same("all gone", log.count(6), 0);
    }

    private static void numberOfTheHeat() {
        Due.about("the number of the heat (heats since the lining was begun)");
        LiningLog log = Due.lining(1, 3);
        log.scan();
        log.heat(1600, 0);
        log.reline(-1);
        log.scan();
        log.heat(1600, 0);
        log.scan();
        for (int scan = 0; scan < 3; scan++) {
            Due.same("heat of " + scan, log.scanned(scan, 2, 4), scan);
        }
        log.begin(1, 3);
        Due.same("begun anew: none kept", log.count(6), 0);
        log.scan();
        Due.same("begun anew", log.scanned(0, 2, 4), 0);
    }

    private static void hotByTheThresholdOfNow() {
        Due.about("A spot is hot in a scan if its temperature is at least the threshold as it is now");
        LiningLog log = hot(1, 3);
        log.set(3, 73);
        Due.same("72 at 73", log.scan(), 0);
        int[][] rows = {{73, 0}, {72, 1}, {71, 1}, {72, 1}, {73, 0}, {50, 1}, {1000, 0}};
        for (int[] row : rows) {
            log.set(3, row[0]);
            Due.same("72 at " + row[0], log.scanned(0, 1, 2), row[1]);
            Due.same("peaks at " + row[0], log.peaks(0), row[1]);
            Due.same("scan() at " + row[0], log.scan(), 3 * row[1]);
        }
        log.set(3, 72);
        log.set(2, 1000);
        Due.same("by the temperature of then", log.scanned(0, 1, 2), 1);
        Due.same("not by that of now", log.spot(1, 3), 40);
    }

    private static void countOfHotSpots() {
        Due.about("Returns the number of hot spots in it");
        LiningLog log = hot(2, 3);
        log.set(3, 72);
        Due.same("all", log.scan(), 6);
        for (int spot = 0; spot < 6; spot++) {
            log.gun(spot, ONE_DEGREE);
            Due.same("one less", log.scan(), 5 - spot);
        }
    }

    private static void peakIfItIsHot() {
        Due.about("it is a peak if it is hot");
        LiningLog log = hot(1, 4);
        log.gun(0, TWO_DEGREES);
        log.gun(2, TWO_DEGREES);
        log.gun(3, ONE_DEGREE);
        // 70, 72, 70, 71
        log.set(3, 72);
        peaks(log, 0, 1, 0, 0);
        log.set(3, 71);
        peaks(log, 0, 1, 0, 1);
        log.set(3, 73);
        peaks(log, 0, 0, 0, 0);
    }

    private static void noNeighbourHigher() {
        Due.about("and no neighbour has a higher temperature");
        LiningLog log = hot(1, 5);
        log.gun(0, TWO_DEGREES);
        log.gun(1, ONE_DEGREE);
        log.gun(3, ONE_DEGREE);
        log.gun(4, TWO_DEGREES);
        // 70, 71, 72, 71, 70
        peaks(log, 0, 0, 1, 0, 0);
        log.gun(2, TWO_DEGREES);
        // 70, 71, 70, 71, 70
        peaks(log, 0, 1, 0, 1, 0);
    }

    private static void noEqualOneOfALowerNumber() {
        Due.about("nor an equal one with a lower number");
        LiningLog log = hot(1, 5);
        peaks(log, 1, 0, 0, 0, 0);
        log.gun(0, ONE_DEGREE);
        peaks(log, 0, 1, 0, 0, 0);
        log.gun(2, ONE_DEGREE);
        // 71, 72, 71, 72, 72
        peaks(log, 0, 1, 0, 1, 0);
        log.gun(1, ONE_DEGREE);
        // 71, 71, 71, 72, 72
        peaks(log, 0, 0, 0, 1, 0);
    }

    private static void peaksAround() {
        Due.about("around, so the last one is next to the first one");
        LiningLog log = hot(1, 4);
        log.gun(1, ONE_DEGREE);
        log.gun(2, ONE_DEGREE);
        // 72, 71, 71, 72: the last one has an equal neighbour with a lower number.
        peaks(log, 1, 0, 0, 0);
        log.gun(0, ONE_DEGREE);
        // 71, 71, 71, 72: the first one has a higher neighbour.
        peaks(log, 0, 0, 0, 1);
    }

    private static void peaksAcrossRings() {
        Due.about("those at the same place in the rings before and behind");
        LiningLog log = hot(2, 3);
        peaks(log, 1, 0, 0, 0, 0, 0);
        log.gun(0, ONE_DEGREE);
        log.gun(1, ONE_DEGREE);
        // 71, 71, 72 before 72, 72, 72: 3 has the equal neighbours 4 and 5, of higher numbers, and 0 is colder.
        peaks(log, 0, 0, 1, 1, 0, 0);
        log.gun(2, ONE_DEGREE);
        peaks(log, 0, 0, 0, 1, 0, 0);
        log.gun(3, ONE_DEGREE);
        // 71, 71, 71 before 71, 72, 72: 0 has no higher neighbour.
        peaks(log, 1, 0, 0, 0, 1, 0);
    }

    /** The rows of the scans have held a larger and hotter lining before. */
    private static void peaksOfASmallerLining() {
        Due.about("A scan records the shell temperatures of all spots: of those that there are");
        LiningLog log = hot(6, 10);
        for (int scan = 0; scan < 4; scan++) {
            log.scan();
        }
        // 60 degrees, where the larger lining had 72.
        log.begin(1, 3);
        log.set(2, 65000);
        peaks(log, 1, 0, 0);
        log.begin(2, 3);
        log.set(2, 65000);
        peaks(log, 1, 0, 0, 0, 0, 0);
        Due.same("all are hot", log.scan(), 6);
        log.set(3, 61);
        Due.same("none is hot", log.scan(), 0);
        Due.same("no peak", log.peaks(2), 0);
    }

    private static void trendOfTwoScans() {
        Due.about("NOT_FOUND if there are fewer than 2 scans");
        LiningLog log = Due.lining(1, 3);
        Due.same("no scan", log.trend(0), Due.MISSING);
        log.scan();
        log.heat(1600, 0);
        Due.same("one scan", log.trend(0), Due.MISSING);
        Due.same("one scan: heats", log.heatsByTrend(0), Due.MISSING);
        log.scan();
        Due.same("two scans", log.trend(0), 1000);
        Due.same("two scans: heats", log.heatsByTrend(0), 219);
        log.undo();
        Due.same("one again", log.trend(0), Due.MISSING);
        Due.same("one again: heats", log.heatsByTrend(0), Due.MISSING);
    }

    private static void trendOfTheLatestTwo() {
        Due.about("its thickness in the scan before the latest one minus that in the latest one");
        LiningLog log = Due.lining(1, 3);
        for (int rate = 1; rate <= 7; rate++) {
            log.rate(0, rate);
            log.scan();
            log.heat(1600, 0);
            if (rate > 1) {
                Due.same("trend of " + Math.min(rate, 4), log.trend(1), 100 * (rate - 1));
            }
        }
        log.reline(-1);
        log.scan();
        Due.same("relined", log.trend(1), 100 * (2979 - 3000));
    }

    private static void trendOfTheSameHeat() {
        Due.about("NOT_FOUND if the latest two are of the same heat");
        LiningLog log = Due.lining(1, 3);
        log.scan();
        log.heat(1600, 0);
        log.scan();
        log.gun(0, 50);
        log.scan();
        Due.same("other thicknesses, the same heat", log.trend(0), Due.MISSING);
        Due.same("heats", log.heatsByTrend(0), Due.MISSING);
        log.heat(1600, 0);
        log.scan();
        Due.same("the next heat", log.trend(0), 2000);
        log.scan();
        log.scan();
        Due.same("the same heat again", log.trend(0), Due.MISSING);
        log.reline(-1);
        log.heat(1600, 0);
        log.scan();
        Due.same("the first heat of the next campaign is another one", log.trend(1), 100 * (2980 - 2990));
    }

    /** What a trend is if spot 0 is gunned so that so much stays, and so many heats without wear follow. */
    private static int trendOfGunned(int amount, int stays, int heats) {
        LiningLog log = Due.lining(1, 3);
        log.rate(0, 0);
        log.set(5, 100);
        log.set(1, 500);
        log.scan();
        Due.same("gun(0, " + amount + ")", log.gun(0, amount), stays);
        Due.heats(log, heats, 1600, 0);
        log.scan();
        Due.same("heats by a trend that is not above 0", log.heatsByTrend(0), Due.MISSING);
        return log.trend(0);
    }

    private static void trendRoundedDown() {
        Due.about("divided by the difference of the heats, times 100 ahead of the division, rounded down");
        Due.same("-100 / 1", trendOfGunned(2, 1, 1), -100);
        Due.same("-100 / 3", trendOfGunned(2, 1, 3), -34);
        Due.same("-200 / 3", trendOfGunned(4, 2, 3), -67);
        Due.same("-100 / 99", trendOfGunned(2, 1, 99), -2);
        Due.same("-100 / 100", trendOfGunned(2, 1, 100), -1);
        Due.same("-100 / 101", trendOfGunned(2, 1, 101), -1);
        Due.same("-100 / 200", trendOfGunned(2, 1, 200), -1);
        Due.same("0 / 3", trendOfGunned(1, 0, 3), 0);
        Due.same("-30000 / 1", trendOfGunned(500, 300, 1), -30000);
        LiningLog log = Due.lining(1, 3);
        log.scan();
        log.rate(0, 1);
        log.heat(1600, 0);
        log.rate(0, 0);
        Due.heats(log, 2, 1600, 0);
        log.scan();
        Due.same("100 / 3", log.trend(0), 33);
        log.rate(0, 2);
        log.heat(1600, 0);
        log.rate(0, 0);
        Due.heats(log, 2, 1600, 0);
        log.scan();
        Due.same("200 / 3", log.trend(0), 66);
    }

    /** Spot 0 lost 1 in so many heats. */
    private static LiningLog slow(int heats) {
        LiningLog log = Due.lining(1, 3);
        log.rate(0, 1);
        log.scan();
        log.heat(1600, 0);
        log.rate(0, 0);
        Due.heats(log, heats - 1, 1600, 0);
        log.scan();
        return log;
    }

    private static void heatsByTrendAboveZero() {
        Due.about("NOT_FOUND if the trend is not above 0");
        Due.same("1 in 100 heats", slow(100).trend(0), 1);
        Due.same("a trend of 1", slow(100).heatsByTrend(0), 100 * 2199);
        Due.same("1 in 101 heats", slow(101).trend(0), 0);
        Due.same("a trend of 0", slow(101).heatsByTrend(0), Due.MISSING);
    }

    private static void heatsByTrendAtTheLimit() {
        Due.about("NOT_FOUND if the thickness is less than the limit");
        LiningLog log = Due.lining(1, 3);
        log.rate(0, 50);
        log.scan();
        Due.heats(log, 10, 1800, 100);
        log.scan();
        log.set(0, 1999);
        Due.same("2000 with a limit of 1999: 100 / 10000", log.heatsByTrend(0), 0);
        log.set(0, 1900);
        Due.same("2000 with a limit of 1900", log.heatsByTrend(0), 1);
        log.set(0, 2000);
        Due.same("2000 with a limit of 2000", log.heatsByTrend(0), 0);
        log.rate(0, 1);
        log.heat(1600, 0);
        Due.same("1999 with a limit of 2000", log.heatsByTrend(0), Due.MISSING);
        Due.same("the campaign is over", log.count(5), 1);
        log.set(0, 1998);
        Due.same("by the limit as it is now, also if it is over", log.heatsByTrend(0), 0);
    }

    private static void heatsByTrendRoundedDown() {
        Due.about("100 * (its thickness now minus the limit) / trend");
        LiningLog log = Due.lining(1, 3);
        log.rate(0, 30);
        log.scan();
        log.heat(1600, 0);
        log.scan();
        Due.same("trend", log.trend(0), 3000);
        int[][] rows = {{0, 99}, {800, 72}, {810, 72}, {811, 71}, {1970, 33}, {1971, 33}, {1980, 33}, {1981, 32}};
        for (int[] row : rows) {
            log.set(0, row[0]);
            Due.same("2970 to " + row[0], log.heatsByTrend(0), row[1]);
        }
        log.gun(0, 17);
        log.set(0, 1981);
        Due.same("10 more of it now", log.heatsByTrend(0), 33);
        Due.same("the other spots", log.heatsByTrend(1), 32);
    }
}
