import java.util.ArrayList;
import java.util.List;
import java.util.TreeSet;

/** What is just enough and just not, what is rounded, empty or full, and what goes around: the lining and its heats. */
public final class LiningEdgesTest {
    private LiningEdgesTest() {
    }

    public static void main(String[] args) {
        for (int rings = 1; rings <= 6; rings++) {
            for (int sectors = 3; sectors <= 10; sectors++) {
                places(rings, sectors);
                around(rings, sectors);
                ringsBeforeAndBehind(rings, sectors);
            }
        }
        firstSettings();
        beginsAnew();
        smallerThanBefore();
        largest();
        factorRoundedDown();
        slagRoundedDown();
        rateRoundedDown();
        standingOutByAtLeast();
        standingOutRoundedDown();
        thicknessesAhead();
        layerJustEnough();
        layerOfOne();
        brickJustEnough();
        layerUponTooLittleBrick();
        bare();
        restsAtMultiples();
        restByTheSettingOfThen();
        restByTheCampaign();
        restRoundedDown();
        lessThanTheLimit();
        limitOfZero();
        eachSpotEndsIt();
        atNoOtherTime();
        nothingInAnOverCampaign();
        staysRoundedDown();
        atLeastTheThreshold();
        stock();
        mostThickness();
        relining();
        reliningAll();
        shellTemperatures();
        accountsInEachState();
        accountsOfTheLongestRun();
        Due.end("LiningEdgesTest");
    }

    /** One ring of three where only what is looked at makes a difference. */
    private static LiningLog even(int rate) {
        LiningLog log = Due.lining(1, 3);
        log.set(1, 500);
        log.rate(0, rate);
        return log;
    }

    /** Worn by 100 a heat, with a limit of 0. */
    private static LiningLog worn(int heats) {
        LiningLog log = even(50);
        log.set(0, 0);
        Due.heats(log, heats, 1800, 100);
        Due.same("worn to", log.count(10), 3000 - 100 * heats);
        return log;
    }

    private static void places(int rings, int sectors) {
        Due.about("the spot in the ring r at the place s has the number r * S + s");
        LiningLog log = Due.lining(rings, sectors);
        for (int ring = 0; ring < rings; ring++) {
            log.rate(ring, ring + 1);
            Due.same("ring of the first spot", log.spot(ring * sectors, 6), ring);
            Due.same("rate of the first spot", log.spot(ring * sectors, 7), ring + 1);
            Due.same("ring of the last spot", log.spot(ring * sectors + sectors - 1, 6), ring);
            Due.same("rate of the last spot", log.spot(ring * sectors + sectors - 1, 7), ring + 1);
        }
    }

    private static List<Integer> neighboursOf(int spot, int rings, int sectors) {
        int ring = spot / sectors;
        int place = spot % sectors;
        TreeSet<Integer> found = new TreeSet<>();
        found.add(ring * sectors + (place + 1) % sectors);
        found.add(ring * sectors + (place + sectors - 1) % sectors);
        if (ring > 0) {
            found.add((ring - 1) * sectors + place);
        }
        if (ring < rings - 1) {
            found.add((ring + 1) * sectors + place);
        }
        return new ArrayList<>(found);
    }

    private static void around(int rings, int sectors) {
        Due.about("around, so the last one is next to the first one");
        LiningLog log = Due.lining(rings, sectors);
        for (int ring = 0; ring < rings; ring++) {
            int first = ring * sectors;
            log.gun(first, 100);
            Due.same("the first stands out in ring " + ring, log.spot(first, 4), 60);
            Due.same("the last lies behind none", log.spot(first + sectors - 1, 4), 0);
            log.gun(first + sectors - 1, 200);
            Due.same("the last stands out", log.spot(first + sectors - 1, 4), 120);
            log.reline(ring);
        }
        for (int spot = 0; spot < rings * sectors; spot++) {
            List<Integer> due = neighboursOf(spot, rings, sectors);
            Due.same("neighbours of " + spot, log.spot(spot, 5), due.size());
            for (int index = 0; index < due.size(); index++) {
                Due.same("neighbour(" + spot + ", " + index + ")", log.neighbour(spot, index), due.get(index));
            }
            Due.same("one more", log.neighbour(spot, due.size()), Due.MISSING);
        }
    }

    /** All spots but one are gunned, and that one is deep beside all of its neighbours alone. */
    private static void ringsBeforeAndBehind(int rings, int sectors) {
        Due.about("those at the same place in the rings before and behind, if there are any");
        int last = rings * sectors - 1;
        for (int deep : new int[] {0, sectors - 1, last - sectors + 1, last}) {
            LiningLog log = Due.lining(rings, sectors);
            for (int spot = 0; spot <= last; spot++) {
                if (spot != deep) {
                    log.gun(spot, 100);
                }
            }
            List<Integer> beside = neighboursOf(deep, rings, sectors);
            for (int spot = 0; spot <= last; spot++) {
                int due = spot == deep ? -60 : beside.contains(spot) ? 60 : 0;
                Due.same("spot " + spot + " beside " + deep, log.spot(spot, 4), due);
            }
        }
    }

    private static void first(String when, LiningLog log) {
        int[] due = {800, 50, 30000, 60, 20000, 20};
        for (int what = 0; what < due.length; what++) {
            Due.same(when + ": setting " + what, log.count(20 + what), due[what]);
        }
        for (int ring = 0; ring < log.count(0); ring++) {
            Due.same(when + ": rate of ring " + ring, log.spot(ring * log.count(1), 7), 10);
        }
    }

    private static void firstSettings() {
        Due.about("The settings are (in parentheses: range; first value); each ring has a rate (initially 10)");
        first("new", new LiningLog());
        LiningLog log = new LiningLog();
        int[] others = {2000, 500, 100000, 1000, 0, 1};
        for (int what = 0; what < others.length; what++) {
            log.set(what, others[what]);
        }
        log.begin(6, 3);
        first("begun", log);
        for (int ring = 0; ring < 6; ring++) {
            log.rate(ring, 50 - ring);
        }
        log.begin(6, 3);
        first("begun again", log);
    }

    private static void beginsAnew() {
        Due.about("heats, campaigns, scans and accounts begin anew (what is laid now is laid)");
        LiningLog log = HeatsTest.overLining();
        log.reline(-1);
        log.gun(0, 500);
        log.gun(1, 500);
        log.scan();
        Due.heats(log, 11, 1800, 100);
        log.set(0, 2000);
        log.heat(1800, 100);
        Due.same("over", log.count(5), 1);
        Due.same("begin(1, 3)", log.begin(1, 3), 3);
        int[] counts = {1, 3, 0, 0, 1, 0, 0, 4, 0, 0, 3000};
        for (int what = 0; what < counts.length; what++) {
            Due.same("count(" + what + ")", log.count(what), counts[what]);
        }
        int[] accounts = {9000, 0, 0, 0, 9000};
        for (int what = 0; what < accounts.length; what++) {
            Due.same("account(" + what + ")", log.account(what), accounts[what]);
        }
        for (int spot = 0; spot < 3; spot++) {
            Due.same("brick", log.spot(spot, 0), 3000);
            Due.same("layer", log.spot(spot, 1), 0);
        }
        log.set(5, 2);
        log.gun(0, 500);
        log.heat(1400, 0);
        // 5 and 300 / 50 are a wear of 11, and a rest would halve the layer.
        Due.same("the first heat is none of 2", log.spot(0, 1), 300 - 2 * 11);
    }

    private static void smallerThanBefore() {
        Due.about("Begins another lining: the spots that it does not have count no more");
        LiningLog log = Due.lining(6, 10);
        log.set(2, 100000);
        for (int ring = 0; ring < 6; ring++) {
            log.rate(ring, 50);
        }
        for (int spot = 3; spot < 60; spot += 4) {
            log.gun(spot, 500);
        }
        Due.heats(log, 4, 1800, 100);
        for (int spot = 0; spot < 6; spot++) {
            log.gun(spot, 100);
        }
        log.begin(2, 3);
        Due.same("least", log.count(10), 3000);
        Due.same("layers", log.count(9), 0);
        Due.same("layer of 0", log.spot(0, 1), 0);
        Due.same("left", log.account(4), 18000);
        Due.same("scan", log.scan(), 0);
        log.set(5, 1);
        Due.same("heat", log.heat(1600, 0), 60);
        Due.same("broken out by its rest", log.account(3), 0);
        Due.same("heats left", log.heatsLeft(1800, 100), 110);
        Due.same("first through", log.firstThrough(1800, 100), 0);
        Due.balanced("smaller", log);
    }

    private static void largest() {
        Due.about("R rings (1 to 6) of S spots each (3 to 10): the largest lining");
        LiningLog log = Due.lining(6, 10);
        log.set(2, 100000);
        log.set(5, 1);
        Due.same("least", log.count(10), 3000);
        Due.same("left", log.account(4), 180000);
        Due.same("all are hot", log.scan(), 60);
        Due.same("the first is a peak", log.peaks(0), 1);
        Due.same("gun the last", log.gun(59, 500), 400);
        Due.same("layers", log.count(9), 1);
        // It wears by 10 and 400 / 50.
        Due.same("heat", log.heat(1600, 0), 59 * 10 + 2 * 18);
        Due.same("half of the rest of the layer", log.spot(59, 1), (400 - 36) / 2);
        Due.same("broken out", log.account(3), (400 - 36) / 2);
        Due.same("best spot", log.bestSpot(500, 1800, 100), 0);
        Due.same("reline(-1)", log.reline(-1), 59 * 2990 + 3000 + 182);
        Due.balanced("largest", log);
    }

    private static void factorRoundedDown() {
        Due.about("100 + (temperature - 1600) / 4, rounded down toward negative infinity");
        LiningLog log = even(50);
        // With a rate of 50 a heat of factor f wears f / 2: 101 and 100 the same, 99 and 98 the same.
        int[][] rows = {{1400, 25}, {1403, 25}, {1404, 25}, {1408, 26}, {1591, 48}, {1592, 49}, {1595, 49},
            {1596, 49}, {1599, 49}, {1600, 50}, {1607, 50}, {1608, 51}, {1799, 74}, {1800, 75}};
        for (int[] row : rows) {
            Due.same("wear at " + row[0], log.wear(0, row[0], 0), row[1]);
            Due.same("heat at " + row[0], log.heat(row[0], 0), 3 * row[1]);
        }
    }

    private static void slagRoundedDown() {
        Due.about("slag / 2, rounded down");
        LiningLog log = even(50);
        int[][] rows = {{0, 50}, {1, 50}, {2, 50}, {3, 50}, {4, 51}, {7, 51}, {8, 52}, {99, 74}, {100, 75}};
        for (int[] row : rows) {
            Due.same("wear with " + row[0], log.wear(0, 1600, row[0]), row[1]);
            Due.same("heat with " + row[0], log.heat(1600, row[0]), 3 * row[1]);
        }
        // Each of the quotients is rounded, not their sum: 3 / 4 + 1 / 2 and -1 / 4 + 3 / 2.
        Due.same("wear(0, 1607, 1)", log.wear(0, 1607, 1), 50);
        Due.same("wear(0, 1599, 3)", log.wear(0, 1599, 3), 50);
        Due.same("wear(0, 1599, 1)", log.wear(0, 1599, 1), 49);
    }

    private static void rateRoundedDown() {
        Due.about("the rate of its ring * factor / 100");
        LiningLog log = even(1);
        Due.same("factor 99", log.wear(0, 1599, 0), 0);
        Due.same("factor 100", log.wear(0, 1600, 0), 1);
        Due.same("factor 199", log.wear(0, 1800, 99), 1);
        Due.same("factor 200", log.wear(0, 1800, 100), 2);
        Due.same("no wear", log.heat(1599, 0), 0);
        Due.same("wear of 1", log.heat(1600, 0), 3);
        log.rate(0, 0);
        Due.same("rate 0 in the hottest heat", log.heat(1800, 100), 0);
        Due.same("worn", log.account(2), 3);
        log.rate(0, 50);
        Due.same("the most", log.heat(1800, 100), 300);
    }

    /** Spot 1 of a ring of three stands out by 60. */
    private static LiningLog standingOutBy60(int counting) {
        LiningLog log = Due.lining(1, 3);
        Due.same("gun(1, 100)", log.gun(1, 100), 60);
        log.set(1, counting);
        log.rate(0, 0);
        return log;
    }

    private static void standingOutByAtLeast() {
        Due.about("if its thickness is greater than the least one of its neighbours by at least the standing out");
        int[][] rows = {{500, 0}, {61, 0}, {60, 1}, {59, 1}};
        for (int[] row : rows) {
            LiningLog log = standingOutBy60(row[0]);
            Due.same("60 out at " + row[0], log.wear(1, 1600, 0), row[1]);
            Due.same("as far as its neighbour", log.wear(0, 1600, 0), 0);
            // Wear takes twice as much of a layer.
            Due.same("heat, 60 out at " + row[0], log.heat(1600, 0), 2 * row[1]);
        }
        LiningLog deep = Due.lining(1, 3);
        deep.set(1, 1);
        Due.same("by nothing", deep.wear(0, 1600, 0), 10);
        deep.gun(0, 2);
        Due.same("by 1", deep.wear(0, 1600, 0), 11);
        deep.gun(1, 100);
        deep.gun(2, 100);
        Due.same("deeper than both", deep.wear(0, 1600, 0), 10);
        deep.gun(0, 102);
        Due.same("greater than the greater one: by the least", deep.wear(0, 1600, 0), 12);
    }

    private static void standingOutRoundedDown() {
        Due.about("plus this difference / (standing out)");
        int[][] rows = {{31, 1}, {30, 2}, {21, 2}, {20, 3}, {2, 30}, {1, 60}};
        for (int[] row : rows) {
            LiningLog log = standingOutBy60(row[0]);
            Due.same("60 out at " + row[0], log.wear(1, 1600, 0), row[1]);
        }
        LiningLog far = Due.lining(1, 3);
        far.rate(0, 50);
        far.set(0, 0);
        Due.heats(far, 30, 1800, 100);
        far.set(1, 1);
        far.set(2, 1000);
        Due.same("gun(2, 500)", far.gun(2, 500), 300);
        Due.same("300 out of nothing", far.wear(2, 1400, 0), 25 + 300);
    }

    private static void thicknessesAhead() {
        Due.about("all by the thicknesses ahead of the heat");
        for (int gunned = 0; gunned < 3; gunned++) {
            LiningLog log = Due.lining(1, 3);
            log.set(1, 1);
            Due.same("gun(" + gunned + ", 100)", log.gun(gunned, 100), 60);
            // Its wear is 70: all 60 of the layer, and 40 of the brick; the others wear 10.
            Due.same("heat", log.heat(1600, 0), 100 + 10 + 10);
            for (int spot = 0; spot < 3; spot++) {
                Due.same("spot " + spot + " beside " + gunned, log.spot(spot, 2), spot == gunned ? 2960 : 2990);
            }
        }
    }

    private static void layerJustEnough() {
        Due.about("Wear w takes 2 * w of the gunned layer, if there is as much; otherwise all of it, g, and w - g / 2");
        // Amount, what stays of it, then the layer and the brick behind a wear of 10.
        int[][] rows = {{32, 19, 0, 2999}, {34, 20, 0, 3000}, {35, 21, 1, 3000}, {37, 22, 2, 3000}, {30, 18, 0, 2999},
            {29, 17, 0, 2998}};
        for (int[] row : rows) {
            LiningLog log = even(10);
            Due.same("gun(0, " + row[0] + ")", log.gun(0, row[0]), row[1]);
            int lost = 3000 + row[1] - row[2] - row[3];
            Due.same("heat, a layer of " + row[1], log.heat(1600, 0), 20 + lost);
            Due.same("layer", log.spot(0, 1), row[2]);
            Due.same("brick", log.spot(0, 0), row[3]);
            Due.same("spots with a layer", log.count(9), row[2] > 0 ? 1 : 0);
            Due.same("worn is what it loses", log.account(2), 20 + lost);
        }
    }

    private static void layerOfOne() {
        Due.about("otherwise it takes all of it, g, and w - g / 2 of the brick");
        LiningLog log = even(10);
        Due.same("gun(0, 2)", log.gun(0, 2), 1);
        Due.same("1 and 10 - 0", log.heat(1600, 0), 20 + 11);
        Due.same("brick", log.spot(0, 0), 2990);
        LiningLog slow = even(1);
        slow.gun(0, 2);
        Due.same("a wear of 1", slow.heat(1600, 0), 2 + 2);
        Due.same("brick", slow.spot(0, 0), 2999);
        LiningLog none = even(0);
        none.gun(0, 2);
        Due.same("no wear", none.heat(1600, 0), 0);
        Due.same("layer", none.spot(0, 1), 1);
    }

    private static void brickJustEnough() {
        Due.about("but at most what is there. What the spot really loses is worn");
        // Slag 96, 98 and 100 wear 99, 99 and 100 of the last 100.
        LiningLog log = worn(29);
        Due.same("one less than is there", log.heat(1800, 98), 297);
        Due.same("brick", log.spot(0, 0), 1);
        Due.same("wear is told all the same", log.wear(0, 1800, 100), 100);
        Due.same("the last of it", log.heat(1800, 100), 3);
        Due.same("brick", log.spot(0, 0), 0);
        Due.same("worn", log.account(2), 9000);
        LiningLog just = worn(29);
        Due.same("just what is there", just.heat(1800, 100), 300);
        Due.same("brick", just.spot(2, 0), 0);
        Due.same("worn", just.account(2), 9000);
    }

    private static void layerUponTooLittleBrick() {
        Due.about("takes all of it, g, and w - g / 2 of the brick, but at most what is there");
        LiningLog log = worn(29);
        log.rate(0, 30);
        Due.same("60 of 100", log.heat(1800, 100), 180);
        Due.same("gun(0, 50), hot", log.gun(0, 50), 40);
        log.rate(0, 50);
        Due.same("40 of the layer and all the brick", log.heat(1800, 100), 40 + 40 + 40 + 40);
        Due.same("thickness", log.spot(0, 2), 0);
        Due.balanced("worn out", log);
        Due.same("gun(0, 250) upon nothing", log.gun(0, 250), 200);
        Due.same("a layer without brick", log.heat(1800, 100), 200);
        Due.same("gun(0, 250)", log.gun(0, 250), 200);
        log.rate(0, 49);
        Due.same("2 * 98", log.heat(1800, 100), 196);
        Due.same("layer", log.spot(0, 1), 4);
        Due.same("the rest of the layer, no brick", log.heat(1800, 100), 4);
        Due.same("brick", log.spot(0, 0), 0);
        Due.balanced("a layer alone", log);
    }

    private static void bare() {
        Due.about("brick and a gunned layer, both at least 0");
        LiningLog log = worn(30);
        for (int heat = 0; heat < 3; heat++) {
            Due.same("nothing is left to wear", log.heat(1800, 100), 0);
            for (int what = 0; what < 3; what++) {
                Due.same("spot(1, " + what + ")", log.spot(1, what), 0);
            }
        }
        Due.same("left", log.account(4), 0);
        Due.same("least", log.count(10), 0);
        Due.same("nothing to break out", log.reline(0), 0);
        Due.same("relined", log.count(10), 3000);
    }

    private static void restsAtMultiples() {
        Due.about("Behind a heat whose number in its campaign (from 1) is a multiple of the setting 5");
        for (int every : new int[] {1, 2, 3, 20, 99, 100}) {
            LiningLog log = even(0);
            log.set(5, every);
            log.gun(0, 500);
            Due.heats(log, every - 1, 1600, 0);
            Due.same("one heat before the rest of " + every, log.spot(0, 1), 300);
            log.heat(1600, 0);
            Due.same("the rest of " + every, log.spot(0, 1), 150);
            Due.heats(log, every - 1, 1600, 0);
            Due.same("one heat before the next of " + every, log.spot(0, 1), 150);
            log.heat(1600, 0);
            Due.same("the next of " + every, log.spot(0, 1), 75);
            Due.same("broken out", log.account(3), 225);
        }
        LiningLog first = even(0);
        first.gun(0, 500);
        Due.heats(first, 19, 1600, 0);
        Due.same("19 heats with the first settings", first.spot(0, 1), 300);
        first.heat(1600, 0);
        Due.same("20 heats with the first settings", first.spot(0, 1), 150);
    }

    private static void restByTheSettingOfThen() {
        Due.about("a multiple of the setting 5, as it is then");
        LiningLog log = even(0);
        log.gun(0, 500);
        Due.heats(log, 5, 1600, 0);
        log.set(5, 7);
        log.heat(1600, 0);
        Due.same("6 is none of 7", log.spot(0, 1), 300);
        log.set(5, 6);
        Due.same("setting is no rest", log.spot(0, 1), 300);
        log.heat(1600, 0);
        Due.same("7 is none of 6", log.spot(0, 1), 300);
        log.set(5, 4);
        log.heat(1600, 0);
        Due.same("8 is one of 4", log.spot(0, 1), 150);
    }

    private static void restByTheCampaign() {
        Due.about("whose number in its campaign (from 1)");
        LiningLog log = even(0);
        log.set(5, 2);
        log.heat(1600, 0);
        log.reline(0);
        log.gun(0, 500);
        log.heat(1600, 0);
        Due.same("relining a ring: the second heat", log.spot(0, 1), 150);
        log.heat(1600, 0);
        log.reline(-1);
        log.gun(0, 500);
        log.heat(1600, 0);
        Due.same("relining all: the first heat again", log.spot(0, 1), 300);
        log.heat(1600, 0);
        Due.same("and the second", log.spot(0, 1), 150);
    }

    private static void restRoundedDown() {
        Due.about("each spot loses half of its gunned layer (rounded down), which is broken out");
        LiningLog log = even(0);
        log.set(5, 1);
        log.gun(0, 5);
        log.gun(1, 2);
        Due.same("no wear, so nothing is worn", log.heat(1600, 0), 0);
        Due.same("3 lose 1", log.spot(0, 1), 2);
        Due.same("1 loses nothing", log.spot(1, 1), 1);
        Due.same("nothing loses nothing", log.spot(2, 1), 0);
        Due.same("broken out", log.account(3), 1);
        log.heat(1600, 0);
        log.heat(1600, 0);
        Due.same("2 lose 1, and 1 stays", log.spot(0, 1), 1);
        Due.same("broken out", log.account(3), 2);
        Due.same("worn", log.account(2), 0);
        Due.same("brick stays", log.spot(0, 0), 3000);
    }

    private static void lessThanTheLimit() {
        Due.about("A campaign is over if some spot has a thickness less than the limit");
        LiningLog log = worn(10);
        log.set(0, 1999);
        log.rate(0, 0);
        log.heat(1600, 0);
        Due.same("2000 with a limit of 1999", log.count(5), 0);
        log.set(0, 2000);
        log.heat(1600, 0);
        Due.same("2000 with a limit of 2000", log.count(5), 0);
        log.rate(0, 1);
        log.heat(1600, 0);
        Due.same("1999 with a limit of 2000", log.count(5), 1);
    }

    private static void limitOfZero() {
        Due.about("the limit (0 to 2000): nothing is less than 0");
        LiningLog log = worn(30);
        log.heat(1800, 100);
        Due.same("bare", log.count(5), 0);
        log.set(0, 1);
        log.heat(1800, 100);
        Due.same("bare, with a limit of 1", log.count(5), 1);
        Due.same("heat", log.heat(1800, 100), Due.IMPOSSIBLE);
    }

    private static void eachSpotEndsIt() {
        Due.about("if some spot has a thickness less than the limit");
        for (int thin = 0; thin < 6; thin++) {
            LiningLog log = Due.lining(2, 3);
            log.set(1, 500);
            log.rate(0, 50);
            log.rate(1, 50);
            Due.heats(log, 10, 1800, 100);
            log.rate(0, 1);
            log.rate(1, 1);
            for (int spot = 0; spot < 6; spot++) {
                if (spot != thin) {
                    log.gun(spot, 100);
                }
            }
            log.set(0, 2000);
            log.heat(1600, 0);
            Due.same("spot " + thin, log.count(5), 1);
            Due.same("least", log.count(10), 1999);
        }
    }

    private static void atNoOtherTime() {
        Due.about("this is looked at at the end of each heat, behind the rest, and at no other time");
        LiningLog log = worn(11);
        log.set(0, 2000);
        Due.same("not by set", log.count(5), 0);
        log.gun(0, 5);
        Due.same("not by gun", log.count(5), 0);
        log.scan();
        Due.same("not by scan", log.count(5), 0);
        Due.text(log, "s;g0,5;");
        log.run();
        Due.same("not by a text without a heat", log.count(5), 0);
        log.rate(0, 0);
        Due.same("not by rate", log.count(5), 0);
        log.heat(1600, 0);
        Due.same("by heat", log.count(5), 1);
        log.set(0, 0);
        Due.same("over though the limit is 0 now", log.count(5), 1);
        log.reline(0);
        Due.same("over though the ring is new", log.count(5), 1);
        LiningLog rest = HeatsTest.atLimitByLayers();
        rest.set(5, 14);
        rest.heat(1600, 0);
        Due.same("13 heats, at the limit", rest.count(5), 0);
        rest.heat(1600, 0);
        Due.same("behind the rest", rest.count(5), 1);
    }

    private static void nothingInAnOverCampaign() {
        Due.about("In a campaign that is over there are no heats and nothing is gunned");
        LiningLog log = HeatsTest.overLining();
        Due.same("heat", log.heat(1600, 0), Due.IMPOSSIBLE);
        Due.same("gun", log.gun(0, 1), Due.IMPOSSIBLE);
        Due.same("scans are made", log.scan(), 0);
        Due.same("rates are set", log.rate(0, 7), 50);
        Due.same("settings are set", log.set(0, 10), 2000);
        Due.same("rings are relined", log.reline(0), 5700);
        Due.same("heat, still over", log.heat(1600, 0), Due.IMPOSSIBLE);
        Due.same("gun, still over", log.gun(0, 1), Due.IMPOSSIBLE);
        log.reline(-1);
        Due.same("heat in the next one", log.heat(1600, 0), 21);
        Due.same("gun in the next one", log.gun(0, 5), 3);
    }

    private static void staysRoundedDown() {
        Due.about("amount * 4 / 5 stays if it is hot enough; otherwise amount * 3 / 5");
        int[][] rows = {{1, 0, 0}, {2, 1, 1}, {3, 2, 1}, {4, 3, 2}, {5, 4, 3}, {6, 4, 3}, {499, 399, 299}, {500, 400, 300}};
        for (int[] row : rows) {
            LiningLog hot = even(10);
            hot.set(2, 100000);
            Due.same("hot: " + row[0], hot.gun(1, row[0]), row[1]);
            Due.same("layer", hot.spot(1, 1), row[1]);
            Due.same("gunned", hot.account(1), row[1]);
            LiningLog cold = even(10);
            Due.same("cold: " + row[0], cold.gun(1, row[0]), row[2]);
            Due.same("layer", cold.spot(1, 1), row[2]);
            Due.same("gunned", cold.account(1), row[2]);
        }
    }

    private static void atLeastTheThreshold() {
        Due.about("if its shell temperature is at least the hot threshold");
        LiningLog log = even(10);
        log.set(2, 62000);
        Due.same("40 + 62000 / 3100", log.spot(0, 3), 60);
        Due.same("60 at 60", log.gun(0, 100), 80);
        log.set(2, 61999);
        Due.same("59 at 60", log.gun(1, 100), 60);
        log.set(3, 59);
        Due.same("59 at 59", log.gun(2, 100), 80);
    }

    private static void stock() {
        Due.about("The stock decreases by the amount; LIMIT_REACHED if the stock is less than the amount");
        LiningLog log = even(10);
        log.set(4, 500);
        Due.same("all of it", log.gun(0, 500), 300);
        Due.same("stock", log.count(24), 0);
        Due.same("1 of nothing", log.gun(1, 1), Due.REACHED);
        log.set(4, 499);
        Due.same("1 too few", log.gun(1, 500), Due.REACHED);
        Due.same("stock", log.count(24), 499);
        Due.same("1 left", log.gun(1, 498), 298);
        Due.same("stock", log.count(24), 1);
        Due.same("2 of 1", log.gun(2, 2), Due.REACHED);
        Due.same("1 of 1, of which nothing stays", log.gun(2, 1), 0);
        Due.same("stock", log.count(24), 0);
        log.set(4, 100000);
        log.gun(2, 1);
        Due.same("stock", log.count(24), 99999);
    }

    private static void mostThickness() {
        Due.about("NOT_POSSIBLE if its thickness would be greater than 3500");
        LiningLog cold = even(10);
        cold.gun(0, 500);
        Due.same("201 upon 3300", cold.gun(0, 335), Due.IMPOSSIBLE);
        Due.same("200 upon 3300", cold.gun(0, 334), 200);
        Due.same("thickness", cold.spot(0, 2), 3500);
        Due.same("1 upon 3500", cold.gun(0, 2), Due.IMPOSSIBLE);
        Due.same("nothing upon 3500", cold.gun(0, 1), 0);
        Due.same("stock", cold.count(24), 20000 - 500 - 334 - 1);
        Due.same("the most upon 3500", cold.gun(0, 500), Due.IMPOSSIBLE);
        LiningLog hot = even(10);
        hot.set(2, 100000);
        hot.set(3, 50);
        hot.gun(0, 500);
        Due.same("101 upon 3400", hot.gun(0, 127), Due.IMPOSSIBLE);
        Due.same("100 upon 3400", hot.gun(0, 125), 100);
        Due.same("1 upon 3500", hot.gun(0, 2), Due.IMPOSSIBLE);
        Due.same("nothing upon 3500", hot.gun(0, 1), 0);
    }

    private static void relining() {
        Due.about("Relining a ring makes all its spots 3000 of brick; what was there is broken out");
        for (int ring = 0; ring < 3; ring++) {
            LiningLog log = Due.lining(3, 3);
            log.set(1, 500);
            log.heat(1600, 0);
            for (int spot = 0; spot < 9; spot++) {
                log.gun(spot, 5);
            }
            Due.same("reline(" + ring + ")", log.reline(ring), 3 * 2993);
            for (int spot = 0; spot < 9; spot++) {
                Due.same("brick of " + spot, log.spot(spot, 0), spot / 3 == ring ? 3000 : 2990);
                Due.same("layer of " + spot, log.spot(spot, 1), spot / 3 == ring ? 0 : 3);
            }
            Due.same("laid", log.account(0), 36000);
            Due.same("broken out", log.account(3), 3 * 2993);
            Due.same("campaign", log.count(4), 1);
            Due.same("heats of it", log.count(3), 1);
        }
    }

    private static void reliningAll() {
        Due.about("Relining all rings begins the next campaign, with no heats of it yet (relining a ring does not)");
        LiningLog one = Due.lining(1, 3);
        one.heat(1600, 0);
        one.reline(0);
        Due.same("the only ring: campaign", one.count(4), 1);
        Due.same("the only ring: heats of it", one.count(3), 1);
        one.reline(-1);
        Due.same("all: campaign", one.count(4), 2);
        Due.same("all: heats of it", one.count(3), 0);
        Due.same("all: heats since the lining was begun", one.count(2), 1);
        one.reline(-1);
        Due.same("all again: campaign", one.count(4), 3);
        LiningLog each = Due.lining(2, 3);
        each.heat(1600, 0);
        each.reline(0);
        each.reline(1);
        Due.same("each: campaign", each.count(4), 1);
        Due.same("each: heats of it", each.count(3), 1);
    }

    private static void shellTemperatures() {
        Due.about("40 + (shell factor) / (thickness + 100)");
        LiningLog log = worn(30);
        Due.same("nothing left", log.spot(0, 3), 340);
        log.set(2, 100000);
        Due.same("the hottest", log.spot(0, 3), 1040);
        log.set(2, 1099);
        Due.same("10.99", log.spot(0, 3), 50);
        log.reline(-1);
        Due.same("the coldest", log.spot(0, 3), 40);
        log.set(2, 3099);
        Due.same("just below 1", log.spot(0, 3), 40);
        log.set(2, 3100);
        Due.same("just 1", log.spot(0, 3), 41);
    }

    private static void accountsInEachState() {
        Due.about("laid + gunned = worn + broken out + left");
        LiningLog log = Due.lining(2, 4);
        log.set(1, 3);
        log.set(5, 3);
        for (int round = 0; round < 12; round++) {
            log.gun(round % 8, 37 * round % 500 + 1);
            log.heat(1500 + 25 * round, 8 * round);
            Due.balanced("round " + round, log);
            if (round % 4 == 3) {
                log.reline(round % 3 - 1);
                Due.balanced("relined in round " + round, log);
            }
        }
        log.undo();
        Due.balanced("undone", log);
        log.begin(1, 3);
        Due.balanced("begun anew", log);
    }

    private static void accountsOfTheLongestRun() {
        Due.about("An object is used for at most 512 calls: what 406 runs of 33 lines lay");
        LiningLog log = Due.lining(1, 10);
        for (int sign = 0; sign < 99; sign++) {
            log.type("r0;".charAt(sign % 3));
        }
        for (int run = 0; run < 406; run++) {
            if (log.run() != 33) {
                Due.same("run " + run, 0, 33);
            }
        }
        int laid = 30000 * (33 * 406 + 1);
        int[] due = {laid, 0, 0, laid - 30000, 30000};
        for (int what = 0; what < due.length; what++) {
            Due.same("account(" + what + ")", log.account(what), due[what]);
        }
    }
}
