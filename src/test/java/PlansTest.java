/** Promises 18 to 20: plans for heats to come, which change nothing. */
public final class PlansTest {
    private PlansTest() {
    }

    public static void main(String[] args) {
        promise18HeatsLeft();
        promise18AtMost300();
        promise18StandingOutIsPlanned();
        promise18RestsArePlanned();
        promise18Refused();
        promise19FirstThrough();
        promise19Refused();
        promise20BestSpot();
        promise20TiesAndMost();
        promise20WhereItCanBeGunned();
        promise20Refused();
        plansChangeNothing();
        Due.end("PlansTest");
    }

    private static void promise18HeatsLeft() {
        LiningLog log = Due.lining(1, 3);
        log.rate(0, 50);
        Due.same("3000 to 700 by 100", log.heatsLeft(1800, 100), 23);
        Due.same("3000 to 775 by 25", log.heatsLeft(1400, 0), 89);
        log.set(0, 799);
        Due.same("the limit is 799", log.heatsLeft(1800, 100), 23);
        log.set(0, 801);
        Due.same("the limit is 801", log.heatsLeft(1800, 100), 22);
        Due.heats(log, 21, 1800, 100);
        Due.same("one left", log.heatsLeft(1800, 100), 1);
        log.heat(1800, 100);
        Due.same("over", log.count(5), 1);
        Due.same("none left", log.heatsLeft(1800, 100), 0);
        log.reline(-1);
        log.rate(0, 0);
        log.set(0, 2000);
        log.gun(0, 1);
        log.reline(0);
        Due.same("no wear", log.heatsLeft(1800, 100), Due.MISSING);
        // A spot below a raised limit ends the campaign with the next heat, not before.
        LiningLog raised = Due.lining(1, 3);
        raised.rate(0, 50);
        Due.heats(raised, 11, 1800, 100);
        raised.set(0, 2000);
        raised.rate(0, 0);
        Due.same("one more", raised.heatsLeft(1600, 0), 1);
    }

    private static void promise18StandingOutIsPlanned() {
        LiningLog log = Due.lining(2, 3);
        log.set(1, 500);
        log.rate(0, 0);
        log.rate(1, 50);
        Due.heats(log, 10, 1800, 100);
        Due.same("ring 1", log.spot(3, 2), 2000);
        log.rate(0, 1);
        log.rate(1, 0);
        log.set(0, 2000);
        log.set(1, 1);
        // Ring 0 wears 1 more than it stands out, and so ends below ring 1, which does not wear.
        Due.same("by standing out", log.heatsLeft(1600, 0), 1);
        Due.same("the ring that stands out", log.firstThrough(1600, 0), 0);
        log.rate(0, 0);
        Due.same("just down to ring 1", log.heatsLeft(1600, 0), Due.MISSING);
    }

    private static void promise18AtMost300() {
        LiningLog log = Due.lining(1, 3);
        // 5 a heat: 1505 behind 299 heats, 1500 behind 300.
        int[][] limits = {{1506, 299}, {1505, 300}, {1501, 300}, {1500, Due.MISSING}, {0, Due.MISSING}};
        for (int[] row : limits) {
            log.set(0, row[0]);
            Due.same("limit " + row[0], log.heatsLeft(1400, 0), row[1]);
            Due.same("first with limit " + row[0], log.firstThrough(1400, 0),
                    row[1] == Due.MISSING ? Due.MISSING : 0);
        }
    }

    private static void promise18RestsArePlanned() {
        LiningLog log = HeatsTest.atLimitByLayers();
        Due.same("heats", log.count(3), 12);
        // The layers of 2 lose 1 at the twentieth heat of the campaign.
        Due.same("to the rest", log.heatsLeft(1600, 0), 8);
        log.set(5, 13);
        Due.same("a rest at once", log.heatsLeft(1600, 0), 1);
        log.set(5, 7);
        Due.same("the fourteenth", log.heatsLeft(1600, 0), 2);
        Due.same("all three", log.firstThrough(1600, 0), 0);
        log.gun(0, 100);
        log.gun(1, 4);
        Due.same("two are thicker", log.firstThrough(1600, 0), 2);
    }

    private static void promise18Refused() {
        LiningLog log = Due.lining(1, 3);
        LiningLog over = HeatsTest.overLining();
        int[][] refused = {{1399, 0}, {1801, 0}, {1600, -1}, {1600, 101}};
        for (int[] call : refused) {
            String kind = "(" + call[0] + ", " + call[1] + ")";
            Due.same("heatsLeft" + kind, log.heatsLeft(call[0], call[1]), Due.INVALID);
            Due.same("heatsLeft, over" + kind, over.heatsLeft(call[0], call[1]), Due.INVALID);
            Due.same("firstThrough" + kind, log.firstThrough(call[0], call[1]), Due.INVALID);
            Due.same("firstThrough, over" + kind, over.firstThrough(call[0], call[1]), Due.INVALID);
        }
        for (int wild : Due.WILD) {
            Due.same("heatsLeft(" + wild + ", 0)", log.heatsLeft(wild, 0), Due.INVALID);
            Due.same("heatsLeft(1600, " + wild + ")", log.heatsLeft(1600, wild), Due.INVALID);
            Due.same("firstThrough(" + wild + ", 0)", log.firstThrough(wild, 0), Due.INVALID);
            Due.same("firstThrough(1600, " + wild + ")", log.firstThrough(1600, wild), Due.INVALID);
        }
    }

    private static void promise19FirstThrough() {
        LiningLog log = Due.lining(3, 3);
        Due.same("all at once: the lowest", log.firstThrough(1600, 0), 0);
        log.rate(2, 20);
        Due.same("the fastest ring", log.firstThrough(1600, 0), 6);
        log.set(1, 500);
        log.gun(6, 100);
        Due.same("its first spot without a layer", log.firstThrough(1600, 0), 7);
        log.gun(7, 100);
        Due.same("the last one", log.firstThrough(1600, 0), 8);
        log.rate(2, 0);
        log.rate(1, 11);
        log.gun(3, 1);
        Due.same("the middle ring", log.firstThrough(1600, 0), 3);
        // A spot that is below the limit already is through at the end of the first heat.
        LiningLog raised = Due.lining(2, 3);
        raised.rate(0, 50);
        raised.rate(1, 50);
        Due.heats(raised, 10, 1800, 100);
        raised.reline(0);
        raised.rate(0, 50);
        raised.rate(1, 0);
        Due.same("2000 is not below 2000", raised.set(0, 2000), 800);
        Due.same("ring 0 wears down", raised.firstThrough(1800, 100), 0);
        raised.undo();
        raised.rate(1, 1);
        raised.heat(1600, 0);
        raised.set(0, 2000);
        Due.same("below it already", raised.firstThrough(1400, 0), 3);
    }

    private static void promise19Refused() {
        LiningLog log = Due.lining(1, 3);
        log.rate(0, 0);
        Due.same("none in 300 heats", log.firstThrough(1800, 100), Due.MISSING);
        Due.same("over", HeatsTest.overLining().firstThrough(1800, 100), Due.IMPOSSIBLE);
    }

    private static void promise20BestSpot() {
        LiningLog log = Due.lining(1, 3);
        log.set(1, 500);
        Due.same("gun(0, 100)", log.gun(0, 100), 60);
        Due.same("gun(1, 100)", log.gun(1, 100), 60);
        Due.same("heatsLeft(1600, 0)", log.heatsLeft(1600, 0), 221);
        Due.same("the thin one", log.bestSpot(100, 1600, 0), 2);
        log.gun(2, 100);
        Due.same("60 of layer last 3 heats", log.heatsLeft(1600, 0), 224);
        log.undo();
        log.undo();
        Due.same("another one stays thin: the lowest", log.bestSpot(100, 1600, 0), 0);
        // In a plan the gunned layer is that of the heat of now.
        LiningLog hot = Due.lining(1, 3);
        hot.set(1, 500);
        hot.set(2, 100000);
        hot.gun(1, 500);
        hot.gun(2, 500);
        Due.same("hot", hot.bestSpot(25, 1600, 0), 0);
        hot.gun(0, 25);
        Due.same("20 of layer last a heat", hot.heatsLeft(1600, 0), 222);
    }

    private static void promise20TiesAndMost() {
        LiningLog log = Due.lining(1, 3);
        log.rate(0, 0);
        Due.same("never over: the lowest", log.bestSpot(100, 1600, 0), 0);
        log.rate(0, 10);
        log.set(1, 500);
        log.set(0, 1501);
        log.gun(0, 20);
        log.gun(1, 20);
        Due.same("300 heats", log.heatsLeft(1400, 0), 300);
        Due.same("301 is more than 300", log.bestSpot(20, 1400, 0), 2);
        log.gun(2, 20);
        Due.same("not found by then", log.heatsLeft(1400, 0), Due.MISSING);
        Due.same("all 301: the lowest", log.bestSpot(20, 1400, 0), 0);
    }

    private static void promise20WhereItCanBeGunned() {
        LiningLog log = Due.lining(1, 3);
        log.gun(0, 500);
        log.gun(0, 333);
        log.rate(0, 0);
        Due.same("spot 0 has 3499: 1 more", log.bestSpot(3, 1600, 0), 0);
        Due.same("spot 0 cannot take 2", log.bestSpot(4, 1600, 0), 1);
        log.gun(1, 500);
        log.gun(1, 333);
        Due.same("nor spot 1", log.bestSpot(4, 1600, 0), 2);
        log.gun(2, 500);
        log.gun(2, 333);
        Due.same("none", log.bestSpot(4, 1600, 0), Due.IMPOSSIBLE);
        Due.same("1 more", log.bestSpot(2, 1600, 0), 0);
        log.set(4, 10);
        Due.same("stock", log.bestSpot(2, 1600, 0), 0);
        log.set(4, 1);
        Due.same("no stock", log.bestSpot(2, 1600, 0), Due.IMPOSSIBLE);
    }

    private static void promise20Refused() {
        LiningLog log = Due.lining(1, 3);
        int[][] refused = {{0, 1600, 0}, {501, 1600, 0}, {-1, 1600, 0}, {1, 1399, 0}, {1, 1801, 0},
            {1, 1600, -1}, {1, 1600, 101}};
        LiningLog over = HeatsTest.overLining();
        for (int[] call : refused) {
            String kind = "(" + call[0] + ", " + call[1] + ", " + call[2] + ")";
            Due.same("bestSpot" + kind, log.bestSpot(call[0], call[1], call[2]), Due.INVALID);
            Due.same("bestSpot, over" + kind, over.bestSpot(call[0], call[1], call[2]), Due.INVALID);
        }
        for (int wild : Due.WILD) {
            Due.same("bestSpot(" + wild + ", 1600, 0)", log.bestSpot(wild, 1600, 0), Due.INVALID);
            Due.same("bestSpot(1, " + wild + ", 0)", log.bestSpot(1, wild, 0), Due.INVALID);
            Due.same("bestSpot(1, 1600, " + wild + ")", log.bestSpot(1, 1600, wild), Due.INVALID);
        }
        Due.same("over", over.bestSpot(1, 1600, 0), Due.IMPOSSIBLE);
        log.set(4, 99);
        Due.same("stock", log.bestSpot(100, 1600, 0), Due.IMPOSSIBLE);
        Due.same("just enough", log.bestSpot(99, 1600, 0), 0);
    }

    private static void plansChangeNothing() {
        LiningLog log = Due.lining(2, 4);
        log.gun(3, 100);
        log.heat(1600, 0);
        log.heatsLeft(1700, 20);
        log.firstThrough(1700, 20);
        log.bestSpot(200, 1700, 20);
        log.wear(3, 1700, 20);
        Due.same("states", log.count(7), 3);
        Due.same("heats", log.count(2), 1);
        Due.same("heats of the campaign", log.count(3), 1);
        Due.same("over", log.count(5), 0);
        Due.same("stock", log.count(24), 19900);
        Due.same("worn", log.account(2), 7 * 10 + 22);
        Due.same("gunned", log.account(1), 60);
        Due.same("broken out", log.account(3), 0);
        Due.same("layer", log.spot(3, 1), 38);
        Due.same("brick", log.spot(3, 0), 3000);
        Due.balanced("planned", log);
    }
}
