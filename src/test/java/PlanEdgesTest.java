/** Plans: the first and the last heat that count, the lowest of several spots, and what cannot be planned. */
public final class PlanEdgesTest {
    private PlanEdgesTest() {
    }

    public static void main(String[] args) {
        lastOneIncluded();
        noneIfItIsOver();
        atMost300();
        overByThePlan();
        lowestOfSeveral();
        belowTheLimitAlready();
        noneIn300Heats();
        lowestOfEqualSpots();
        counts301();
        whereItCanBeGunned();
        wearIfLessIsThere();
        wearIfItIsOver();
        Due.end("PlanEdgesTest");
    }

    /** Worn by so much a heat at 1600, by half of it at 1400. */
    private static LiningLog even(int rate) {
        LiningLog log = Due.lining(1, 3);
        log.set(1, 500);
        log.rate(0, rate);
        return log;
    }

    private static void lastOneIncluded() {
        Due.about("heats of one kind that could be made until the campaign is over (the last one included)");
        LiningLog log = even(50);
        log.set(0, 2000);
        for (int left = 11; left > 0; left--) {
            Due.same("heatsLeft", log.heatsLeft(1800, 100), left);
            Due.same("firstThrough", log.firstThrough(1800, 100), 0);
            log.heat(1800, 100);
        }
        Due.same("over", log.count(5), 1);
        Due.same("none left", log.heatsLeft(1800, 100), 0);
    }

    private static void noneIfItIsOver() {
        Due.about("Returns the number, 0 if it is over");
        LiningLog log = HeatsTest.overLining();
        Due.same("over", log.heatsLeft(1600, 0), 0);
        log.set(0, 0);
        log.rate(0, 0);
        log.reline(0);
        Due.same("over, though nothing is thin and nothing wears", log.heatsLeft(1600, 0), 0);
        log.reline(-1);
        Due.same("the next campaign", log.heatsLeft(1600, 0), Due.MISSING);
    }

    private static void atMost300() {
        Due.about("at most 300; NOT_FOUND if it would not be over after 300");
        // 5 a heat: 1505 behind 299 heats, 1500 behind 300, 1495 behind 301.
        int[][] limits = {{1510, 299}, {1506, 299}, {1505, 300}, {1501, 300}, {1500, Due.MISSING}, {1496, Due.MISSING}};
        for (int[] row : limits) {
            LiningLog log = even(10);
            log.set(0, row[0]);
            Due.same("limit " + row[0], log.heatsLeft(1400, 0), row[1]);
            log.heat(1400, 0);
            int less = row[1] == Due.MISSING ? 300 : row[1] - 1;
            Due.same("limit " + row[0] + ", a heat later", log.heatsLeft(1400, 0), less);
        }
    }

    private static void overByThePlan() {
        Due.about("until the campaign is over: as heats would be, with rests, and at the end of each heat");
        LiningLog log = HeatsTest.atLimitByLayers();
        log.set(5, 100);
        Due.same("88 to the heat 100", log.heatsLeft(1600, 0), 88);
        log.set(5, 1);
        Due.same("a rest at once", log.heatsLeft(1600, 0), 1);
        LiningLog raised = even(50);
        Due.heats(raised, 11, 1800, 100);
        raised.rate(0, 0);
        raised.set(0, 1900);
        Due.same("1900 with a limit of 1900", raised.heatsLeft(1600, 0), Due.MISSING);
        raised.set(0, 1901);
        Due.same("1900 with a limit of 1901", raised.heatsLeft(1600, 0), 1);
    }

    private static void lowestOfSeveral() {
        Due.about("of several in the same heat the lowest one");
        for (int thick = 0; thick < 6; thick++) {
            LiningLog log = Due.lining(2, 3);
            log.set(1, 500);
            for (int spot = 0; spot <= thick; spot++) {
                log.gun(spot, 100);
            }
            Due.same("all up to " + thick + " are thicker", log.firstThrough(1600, 0), thick == 5 ? 0 : thick + 1);
        }
        // Spots 4 and 1 fall below in the same heat, though spot 4 falls lower.
        LiningLog log = Due.lining(2, 3);
        log.set(1, 500);
        log.set(0, 2000);
        log.rate(0, 49);
        log.rate(1, 50);
        for (int spot : new int[] {0, 2, 3, 5}) {
            log.gun(spot, 500);
        }
        // 3000 - 98 * 11 = 1922, 3000 - 100 * 11 = 1900.
        Due.same("both in the heat 11", log.heatsLeft(1800, 100), 11);
        Due.same("the lower number", log.firstThrough(1800, 100), 1);
        log.set(0, 1915);
        Due.same("only one in the heat 11", log.heatsLeft(1800, 100), 11);
        Due.same("the higher number", log.firstThrough(1800, 100), 4);
    }

    private static void belowTheLimitAlready() {
        Due.about("(also if it is below the limit already)");
        // Ring 1 stands at 1900 and ring 0 at 2000; with a limit of 2000 it is not over yet.
        LiningLog log = Due.lining(2, 3);
        log.set(1, 500);
        log.rate(0, 50);
        log.rate(1, 50);
        Due.heats(log, 10, 1800, 100);
        log.rate(0, 0);
        Due.heats(log, 1, 1800, 100);
        log.rate(1, 0);
        log.set(0, 2000);
        Due.same("it goes on", log.count(5), 0);
        Due.same("below it already", log.firstThrough(1400, 0), 3);
        Due.same("at the end of the first heat", log.heatsLeft(1400, 0), 1);
        log.rate(0, 2);
        Due.same("the lowest one falls below it in the same heat", log.firstThrough(1400, 0), 0);
        log.gun(0, 10);
        Due.same("the next one too", log.firstThrough(1400, 0), 1);
    }

    private static void noneIn300Heats() {
        Due.about("NOT_FOUND if there is none in 300 heats");
        int[][] limits = {{1505, 0}, {1501, 0}, {1500, Due.MISSING}, {1496, Due.MISSING}, {0, Due.MISSING}};
        for (int[] row : limits) {
            LiningLog log = even(10);
            log.set(0, row[0]);
            Due.same("limit " + row[0], log.firstThrough(1400, 0), row[1]);
        }
        LiningLog bare = even(50);
        bare.set(0, 0);
        Due.same("nothing is below 0", bare.firstThrough(1800, 100), Due.MISSING);
    }

    private static void lowestOfEqualSpots() {
        Due.about("Returns the spot, of several the lowest one");
        LiningLog log = even(10);
        Due.same("all alike", log.bestSpot(100, 1600, 0), 0);
        log.gun(0, 100);
        Due.same("1 and 2 are thin: none helps", log.bestSpot(100, 1600, 0), 0);
        log.gun(1, 100);
        Due.same("2 is thin", log.bestSpot(100, 1600, 0), 2);
        log.gun(2, 50);
        Due.same("2 is the thinnest", log.bestSpot(100, 1600, 0), 2);
        Due.same("1 of which nothing stays helps none", log.bestSpot(1, 1600, 0), 0);
    }

    private static void counts301() {
        Due.about("those of which heatsLeft tells NOT_FOUND counted as 301");
        LiningLog log = even(10);
        log.set(0, 1501);
        log.gun(0, 20);
        log.gun(1, 20);
        Due.same("300 heats", log.heatsLeft(1400, 0), 300);
        Due.same("301 are more than 300", log.bestSpot(20, 1400, 0), 2);
        LiningLog most = even(10);
        most.set(0, 1496);
        Due.same("301 heats", most.heatsLeft(1400, 0), Due.MISSING);
        most.gun(0, 20);
        most.gun(1, 20);
        // Gunning spot 2 makes more than 301 heats of it, which count as 301 like those of the others.
        Due.same("301 and more are alike", most.bestSpot(100, 1400, 0), 0);
    }

    private static void whereItCanBeGunned() {
        Due.about("upon which an amount would have to be gunned; NOT_POSSIBLE if it cannot be gunned upon any spot");
        for (int room = 0; room < 3; room++) {
            LiningLog log = even(10);
            for (int spot = 0; spot < 3; spot++) {
                if (spot != room) {
                    Due.same("gun", log.gun(spot, 500), 300);
                    Due.same("gun to 3500", log.gun(spot, 334), 200);
                }
            }
            Due.same("the only one with room", log.bestSpot(500, 1600, 0), room);
            log.gun(room, 500);
            Due.same("201 upon 3300", log.bestSpot(335, 1600, 0), Due.IMPOSSIBLE);
            Due.same("200 upon 3300", log.bestSpot(334, 1600, 0), room);
            log.gun(room, 334);
            Due.same("all full", log.bestSpot(2, 1600, 0), Due.IMPOSSIBLE);
            Due.same("nothing of 1 stays", log.bestSpot(1, 1600, 0), 0);
        }
        LiningLog log = even(10);
        log.set(4, 100);
        Due.same("just the stock", log.bestSpot(100, 1600, 0), 0);
        Due.same("more than the stock", log.bestSpot(101, 1600, 0), Due.IMPOSSIBLE);
        log.set(4, 0);
        Due.same("no stock", log.bestSpot(1, 1600, 0), Due.IMPOSSIBLE);
    }

    private static void wearIfLessIsThere() {
        Due.about("Returns the wear w (also if less is there to wear)");
        LiningLog log = even(50);
        log.set(0, 0);
        Due.heats(log, 29, 1800, 100);
        Due.same("just as much is there", log.wear(0, 1800, 100), 100);
        log.heat(1790, 100);
        Due.same("brick", log.spot(0, 0), 2);
        Due.same("2 are there", log.wear(0, 1800, 100), 100);
        log.heat(1600, 0);
        Due.same("nothing is there", log.wear(0, 1800, 100), 100);
        Due.same("nothing is there, the least heat", log.wear(0, 1400, 0), 25);
        log.rate(0, 0);
        Due.same("a rate of 0", log.wear(0, 1800, 100), 0);
    }

    private static void wearIfItIsOver() {
        Due.about("(also if the campaign is over)");
        LiningLog log = HeatsTest.overLining();
        Due.same("over", log.wear(0, 1800, 100), 100);
        Due.same("over, the last spot", log.wear(2, 1600, 0), 50);
    }
}
