/** Promises 5 to 7 and 21: heats and their wear, gunning and relining. */
public final class HeatsTest {
    private HeatsTest() {
    }

    public static void main(String[] args) {
        promise5Factor();
        promise5StandingOut();
        promise5Layer();
        promise5AtMostWhatIsThere();
        promise5Rest();
        promise5Over();
        promise5OverBehindTheRest();
        promise5Refused();
        promise6WhatStays();
        promise6Refused();
        promise7Reline();
        promise21Wear();
        Due.end("HeatsTest");
    }

    private static void promise5Factor() {
        LiningLog log = Due.lining(1, 3);
        Due.same("factor 100", log.heat(1600, 0), 30);
        Due.same("factor 100, a quarter over", log.heat(1603, 0), 30);
        // -1 / 4 is rounded down to -1: factor 99, and 10 * 99 / 100 is 9.
        Due.same("factor 99", log.heat(1599, 0), 27);
        Due.same("factor 50", log.heat(1400, 0), 15);
        Due.same("factor 200", log.heat(1800, 100), 60);
        log.rate(0, 50);
        Due.same("factor 101: 50", log.heat(1600, 3), 150);
        Due.same("factor 102: 51", log.heat(1600, 4), 153);
        Due.same("factor 101 by heat", log.heat(1607, 1), 150);
        Due.same("factor 102 of both", log.heat(1604, 2), 153);
        Due.same("heats", log.count(2), 9);
        Due.same("worn", log.account(2), 30 + 30 + 27 + 15 + 60 + 150 + 153 + 150 + 153);
        Due.balanced("factors", log);
    }

    private static void promise5StandingOut() {
        LiningLog log = Due.lining(3, 3);
        log.rate(0, 0);
        log.rate(1, 0);
        log.rate(2, 50);
        Due.same("all even", log.heat(1800, 100), 300);
        // Ring 1 stands out by 100 now, ring 0 by nothing yet.
        Due.same("by the thicknesses ahead", log.heat(1800, 100), 3 * 2 + 300);
        Due.same("ring 1", log.spot(3, 2), 2998);
        // Ring 1 stands out by 2998 - 2800 = 198, ring 0 by 2.
        Due.same("further out", log.heat(1800, 100), 3 * 3 + 300);
        log.set(1, 2);
        // Ring 0 by 3000 - 2995 = 5, ring 1 by 2995 - 2700 = 295.
        Due.same("both", log.heat(1600, 100), 3 * 2 + 3 * 147 + 3 * 75);
        LiningLog edge = Due.lining(2, 3);
        edge.rate(0, 0);
        edge.rate(1, 50);
        edge.heat(1800, 100);
        edge.set(1, 100);
        Due.same("just as far", edge.wear(0, 1600, 0), 1);
        edge.set(1, 101);
        Due.same("not so far", edge.wear(0, 1600, 0), 0);
        edge.set(1, 99);
        Due.same("a little further", edge.wear(0, 1600, 0), 1);
        edge.set(1, 1);
        Due.same("all of it", edge.wear(0, 1600, 0), 100);
        Due.same("the thin ring", edge.wear(3, 1600, 0), 50);
    }

    private static void promise5Layer() {
        LiningLog log = Due.lining(1, 3);
        log.set(1, 500);
        Due.same("gun(0, 25)", log.gun(0, 25), 15);
        // 20 are asked of a layer of 15: it goes, and 10 - 15 / 2 = 3 of the brick.
        Due.same("layer too thin", log.heat(1600, 0), 10 + 10 + 18);
        Due.same("brick", log.spot(0, 0), 2997);
        Due.same("layer", log.spot(0, 1), 0);
        LiningLog even = Due.lining(1, 3);
        even.set(1, 500);
        Due.same("gun(1, 34)", even.gun(1, 34), 20);
        Due.same("layer just enough", even.heat(1600, 0), 10 + 10 + 20);
        Due.same("brick", even.spot(1, 0), 3000);
        Due.same("layer", even.spot(1, 1), 0);
        Due.same("gun(1, 100)", even.gun(1, 100), 60);
        Due.same("layer more than enough", even.heat(1600, 0), 40);
        Due.same("brick", even.spot(1, 0), 3000);
        Due.same("layer", even.spot(1, 1), 40);
        Due.same("gun(2, 40)", even.gun(2, 40), 24);
        Due.same("a little more than enough", even.heat(1600, 0), 10 + 20 + 20);
        Due.same("brick", even.spot(2, 0), 2980);
        Due.same("layer", even.spot(2, 1), 4);
        LiningLog odd = Due.lining(1, 3);
        odd.set(1, 500);
        Due.same("gun(2, 32)", odd.gun(2, 32), 19);
        Due.same("one too few", odd.heat(1600, 0), 10 + 10 + 20);
        Due.same("brick", odd.spot(2, 0), 2999);
        odd.rate(0, 0);
        odd.gun(2, 5);
        Due.same("no wear", odd.heat(1600, 0), 0);
        Due.same("layer stays", odd.spot(2, 1), 3);
        Due.balanced("layers", odd);
    }

    private static void promise5AtMostWhatIsThere() {
        LiningLog log = Due.lining(1, 3);
        log.set(0, 0);
        log.rate(0, 35);
        Due.heats(log, 42, 1800, 100);
        Due.same("left", log.count(10), 60);
        Due.same("the rest of it", log.heat(1800, 100), 180);
        Due.same("brick", log.spot(0, 0), 0);
        Due.same("nothing more", log.heat(1800, 100), 0);
        Due.same("never below a limit of 0", log.count(5), 0);
        Due.same("worn", log.account(2), 9000);
        Due.same("heats", log.count(3), 44);
        Due.balanced("worn out", log);
    }

    private static void promise5Rest() {
        LiningLog log = Due.lining(1, 3);
        log.rate(0, 0);
        log.set(5, 2);
        Due.same("gun(0, 25)", log.gun(0, 25), 15);
        Due.same("gun(1, 5)", log.gun(1, 5), 3);
        log.heat(1600, 0);
        Due.same("no rest behind the first", log.spot(0, 1), 15);
        Due.same("a rest is no wear", log.heat(1600, 0), 0);
        Due.same("half of 15, rounded down, is lost", log.spot(0, 1), 8);
        Due.same("half of 3", log.spot(1, 1), 2);
        Due.same("broken out", log.account(3), 8);
        log.set(5, 3);
        log.heat(1600, 0);
        Due.same("the setting as it is then", log.spot(0, 1), 4);
        log.set(5, 100);
        log.heat(1600, 0);
        Due.same("none behind the fourth", log.spot(0, 1), 4);
        log.set(5, 1);
        log.heat(1600, 0);
        Due.same("behind each", log.spot(0, 1), 2);
        log.heat(1600, 0);
        log.heat(1600, 0);
        Due.same("one is never lost", log.spot(0, 1), 1);
        Due.balanced("rests", log);
        // The heats of the campaign count, not those since the lining was begun.
        LiningLog next = Due.lining(1, 3);
        next.rate(0, 0);
        next.set(5, 2);
        next.heat(1600, 0);
        next.reline(-1);
        next.gun(0, 80);
        next.heat(1600, 0);
        Due.same("first of the campaign", next.spot(0, 1), 48);
        next.heat(1600, 0);
        Due.same("second of the campaign", next.spot(0, 1), 24);
        // The wear comes ahead of the rest.
        LiningLog both = Due.lining(1, 3);
        both.set(1, 500);
        both.set(5, 1);
        both.gun(0, 100);
        Due.same("worn first", both.heat(1600, 0), 40);
        Due.same("then half of 40", both.spot(0, 1), 20);
    }

    private static void promise5Over() {
        LiningLog log = Due.lining(1, 3);
        log.rate(0, 50);
        log.set(0, 2000);
        Due.heats(log, 10, 1800, 100);
        Due.same("at the limit it goes on", log.count(5), 0);
        Due.same("the last one", log.heat(1800, 100), 300);
        Due.same("over", log.count(5), 1);
        Due.same("heat(1800, 100)", log.heat(1800, 100), Due.IMPOSSIBLE);
        Due.same("heats", log.count(3), 11);
        log.set(0, 0);
        Due.same("a lower limit does not help", log.count(5), 1);
        log.reline(0);
        Due.same("nor relining the only ring", log.count(5), 1);
        Due.same("heat(1600, 0)", log.heat(1600, 0), Due.IMPOSSIBLE);
        log.undo();
        log.undo();
        log.undo();
        Due.same("undone", log.count(5), 0);
        LiningLog anew = overLining();
        anew.begin(1, 3);
        Due.same("begun anew", anew.count(5), 0);
        Due.same("heat(1600, 0)", anew.heat(1600, 0), 30);
        log.set(0, 2000);
        log.rate(0, 0);
        log.heat(1600, 0);
        Due.same("no wear, at the limit", log.count(5), 0);
        // One thin spot is enough, wherever it lies.
        LiningLog ring = Due.lining(2, 3);
        ring.set(0, 2000);
        ring.rate(0, 0);
        ring.rate(1, 50);
        ring.set(1, 500);
        Due.heats(ring, 11, 1800, 100);
        Due.same("the second ring", ring.count(5), 1);
    }

    /** Three spots of 1998 with a layer of 2 and a limit of 2000: only a rest takes them below it. */
    private static void promise5OverBehindTheRest() {
        LiningLog log = atLimitByLayers();
        Due.same("thickness", log.count(10), 2000);
        log.heat(1600, 0);
        Due.same("no rest yet", log.count(5), 0);
        log.set(5, 14);
        log.heat(1600, 0);
        Due.same("the rest counts", log.count(10), 1999);
        Due.same("over", log.count(5), 1);
        LiningLog raised = Due.lining(1, 3);
        raised.rate(0, 50);
        raised.set(0, 1000);
        Due.heats(raised, 11, 1800, 100);
        raised.set(0, 2000);
        Due.same("a raised limit is not looked at", raised.count(5), 0);
        Due.same("gunning still goes", raised.gun(0, 3), 1);
        raised.scan();
        raised.reline(0);
        raised.undo();
        Due.same("nor now", raised.count(5), 0);
        Due.same("nor ahead of a heat", raised.heat(1800, 100), 301);
        Due.same("at its end it is", raised.count(5), 1);
    }

    static LiningLog atLimitByLayers() {
        LiningLog log = Due.lining(1, 3);
        log.set(0, 1000);
        log.rate(0, 50);
        Due.heats(log, 10, 1800, 100);
        log.rate(0, 1);
        Due.heats(log, 2, 1600, 0);
        log.rate(0, 0);
        for (int spot = 0; spot < 3; spot++) {
            // 40 + 30000 / 2098 = 54 is cold: 4 * 3 / 5 = 2.
            Due.same("gun(" + spot + ", 4)", log.gun(spot, 4), 2);
        }
        log.set(0, 2000);
        return log;
    }

    private static void promise5Refused() {
        LiningLog log = Due.lining(1, 3);
        int[][] refused = {{1399, 0}, {1801, 0}, {1600, -1}, {1600, 101}, {0, 0}, {1399, 101}};
        for (int[] call : refused) {
            Due.same("heat(" + call[0] + ", " + call[1] + ")", log.heat(call[0], call[1]), Due.INVALID);
        }
        for (int wild : Due.WILD) {
            Due.same("heat(" + wild + ", 0)", log.heat(wild, 0), Due.INVALID);
            Due.same("heat(1600, " + wild + ")", log.heat(1600, wild), Due.INVALID);
        }
        Due.same("heats", log.count(2), 0);
        Due.same("states", log.count(7), 1);
        LiningLog over = overLining();
        Due.same("invalid rather than not possible", over.heat(1399, 0), Due.INVALID);
        Due.same("not possible", over.heat(1400, 100), Due.IMPOSSIBLE);
    }

    static LiningLog overLining() {
        LiningLog log = Due.lining(1, 3);
        log.rate(0, 50);
        log.set(0, 2000);
        Due.heats(log, 11, 1800, 100);
        Due.same("over", log.count(5), 1);
        return log;
    }

    private static void promise6WhatStays() {
        LiningLog log = Due.lining(1, 3);
        Due.same("40 + 9 is below 60", log.gun(0, 500), 300);
        log.set(3, 50);
        log.set(2, 30999);
        Due.same("49 is below 50", log.gun(1, 499), 299);
        log.set(2, 31000);
        Due.same("50 is hot", log.gun(2, 499), 399);
        Due.same("layer", log.spot(2, 1), 399);
        // 40 + 31000 / 3499 = 48 by now.
        Due.same("layers make it colder", log.gun(2, 9), 5);
        Due.same("layer", log.spot(2, 1), 404);
        Due.same("one of it does not stay", log.gun(2, 1), 0);
        Due.same("stock", log.count(24), 20000 - 500 - 499 - 499 - 9 - 1);
        Due.same("gunned", log.account(1), 300 + 299 + 399 + 5);
        Due.same("brick", log.spot(2, 0), 3000);
        Due.same("states", log.count(7), 4);
        Due.balanced("gunned", log);
    }

    private static void promise6Refused() {
        LiningLog log = Due.lining(1, 3);
        for (int amount : new int[] {0, -1, 501}) {
            Due.same("gun(0, " + amount + ")", log.gun(0, amount), Due.INVALID);
        }
        Due.same("gun(-1, 1)", log.gun(-1, 1), Due.INVALID);
        Due.same("gun(3, 1)", log.gun(3, 1), Due.INVALID);
        for (int wild : Due.WILD) {
            Due.same("gun(" + wild + ", 1)", log.gun(wild, 1), Due.INVALID);
            Due.same("gun(0, " + wild + ")", log.gun(0, wild), Due.INVALID);
        }
        log.gun(0, 500);
        Due.same("to 3499", log.gun(0, 333), 199);
        Due.same("2 more", log.gun(0, 4), Due.IMPOSSIBLE);
        Due.same("just 3500", log.gun(0, 3), 1);
        Due.same("1 more", log.gun(0, 2), Due.IMPOSSIBLE);
        Due.same("nothing of 1 stays", log.gun(0, 1), 0);
        Due.same("stock", log.count(24), 20000 - 500 - 333 - 3 - 1);
        log.set(4, 5);
        Due.same("stock too small", log.gun(1, 6), Due.REACHED);
        Due.same("not possible rather than limit reached", log.gun(0, 6), Due.IMPOSSIBLE);
        Due.same("invalid rather than limit reached", log.gun(3, 6), Due.INVALID);
        Due.same("just enough", log.gun(1, 5), 3);
        Due.same("stock is empty", log.gun(1, 1), Due.REACHED);
        Due.same("stock", log.count(24), 0);
        LiningLog over = overLining();
        Due.same("over", over.gun(0, 1), Due.IMPOSSIBLE);
        over.set(4, 0);
        Due.same("over rather than stock", over.gun(0, 1), Due.IMPOSSIBLE);
        Due.same("invalid rather than over", over.gun(3, 1), Due.INVALID);
    }

    private static void promise7Reline() {
        LiningLog log = Due.lining(2, 3);
        log.gun(0, 100);
        log.gun(4, 100);
        log.set(1, 500);
        log.heat(1600, 0);
        Due.same("reline(0)", log.reline(0), 3040 + 2990 + 2990);
        for (int spot = 0; spot < 3; spot++) {
            Due.same("brick", log.spot(spot, 0), 3000);
            Due.same("layer", log.spot(spot, 1), 0);
        }
        Due.same("the other ring stays", log.spot(3, 0), 2990);
        Due.same("and its layer", log.spot(4, 1), 40);
        Due.same("campaign", log.count(4), 1);
        Due.same("heats of it", log.count(3), 1);
        Due.same("laid", log.account(0), 27000);
        Due.same("reline(-1)", log.reline(-1), 9000 + 2990 + 3040 + 2990);
        Due.same("campaign", log.count(4), 2);
        Due.same("heats of it", log.count(3), 0);
        Due.same("heats", log.count(2), 1);
        Due.same("laid", log.account(0), 45000);
        Due.same("least", log.count(10), 3000);
        Due.same("layers", log.count(9), 0);
        Due.same("a setting stays", log.count(21), 500);
        Due.balanced("relined", log);
        for (int ring : new int[] {-2, 2, 3}) {
            Due.same("reline(" + ring + ")", log.reline(ring), Due.INVALID);
        }
        for (int wild : Due.WILD) {
            Due.same("reline(" + wild + ")", log.reline(wild), Due.INVALID);
        }
        Due.same("campaign", log.count(4), 2);
        LiningLog over = overLining();
        over.scan();
        Due.same("a ring, over", over.reline(0), 3 * 1900);
        Due.same("still over", over.count(5), 1);
        Due.same("all, over", over.reline(-1), 9000);
        Due.same("no more", over.count(5), 0);
        Due.same("scans stay", over.count(6), 1);
        Due.same("heat(1600, 0)", over.heat(1600, 0), 150);
    }

    private static void promise21Wear() {
        LiningLog log = Due.lining(2, 3);
        log.rate(1, 50);
        Due.same("wear(0, 1600, 0)", log.wear(0, 1600, 0), 10);
        Due.same("wear(0, 1599, 0)", log.wear(0, 1599, 0), 9);
        Due.same("wear(5, 1800, 100)", log.wear(5, 1800, 100), 100);
        Due.same("wear(5, 1400, 0)", log.wear(5, 1400, 0), 25);
        Due.same("gun(4, 250)", log.gun(4, 250), 150);
        Due.same("standing out, a layer too", log.wear(4, 1600, 0), 50 + 3);
        Due.same("its neighbour", log.wear(1, 1600, 0), 10);
        Due.same("gun(4, 83)", log.gun(4, 83), 49);
        Due.same("199 / 50", log.wear(4, 1600, 0), 53);
        Due.same("nothing changed", log.account(2), 0);
        LiningLog bare = Due.lining(1, 3);
        bare.set(0, 0);
        bare.rate(0, 50);
        Due.heats(bare, 30, 1800, 100);
        Due.same("bare", bare.count(10), 0);
        Due.same("also if less is there", bare.wear(0, 1800, 100), 100);
        Due.same("also if it is over", overLining().wear(0, 1800, 100), 100);
        int[][] refused = {{-1, 1600, 0}, {6, 1600, 0}, {0, 1399, 0}, {0, 1801, 0}, {0, 1600, -1}, {0, 1600, 101}};
        for (int[] call : refused) {
            Due.same("wear(" + call[0] + ", " + call[1] + ", " + call[2] + ")",
                    log.wear(call[0], call[1], call[2]), Due.INVALID);
        }
        for (int wild : Due.WILD) {
            Due.same("wear(" + wild + ", 1600, 0)", log.wear(wild, 1600, 0), Due.INVALID);
            Due.same("wear(0, " + wild + ", 0)", log.wear(0, wild, 0), Due.INVALID);
            Due.same("wear(0, 1600, " + wild + ")", log.wear(0, 1600, wild), Due.INVALID);
        }
    }
}
