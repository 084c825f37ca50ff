import java.util.ArrayList;
import java.util.List;

/** The history: which calls are changes, how many states are kept, and what a state holds. */
public final class HistoryEdgesTest {
    private interface Step {
        int on(LiningLog log);
    }

    private static final List<Step> CHANGES = List.of(log -> log.begin(2, 3), log -> log.rate(0, 20),
            log -> log.set(4, 900), log -> log.heat(1700, 40), log -> log.gun(4, 100), log -> log.reline(1),
            log -> log.scan(), LiningLog::run);

    private HistoryEdgesTest() {
    }

    public static void main(String[] args) {
        emptyHistory();
        eachChangeIsOneState();
        sameValueIsAChange();
        callsThatAreNoChanges();
        fifthStateDropsTheOldest();
        undoOnAndOn();
        undoneThenChanged();
        everythingIsRecorded();
        notTheTextAndTheReason();
        otherSizes();
        beginIsOnlyAChange();
        campaignsAreRestored();
        Due.end("HistoryEdgesTest");
    }

    private static void emptyHistory() {
        Due.about("undo: NOT_POSSIBLE if it is empty");
        LiningLog log = new LiningLog();
        Due.same("new", log.undo(), Due.IMPOSSIBLE);
        log.scan();
        Due.same("the only state", log.undo(), 0);
        Due.same("none left", log.undo(), Due.IMPOSSIBLE);
        Due.same("still none", log.undo(), Due.IMPOSSIBLE);
        Due.same("states", log.count(7), 0);
    }

    private static void eachChangeIsOneState() {
        Due.about("The changes are the calls of begin, rate, set, heat, gun, reline, scan and run that return no error");
        for (int kind = 0; kind < CHANGES.size(); kind++) {
            LiningLog log = new LiningLog();
            String before = Seen.lining(log);
            int answer = CHANGES.get(kind).on(log);
            Due.same("change " + kind + " is no error", answer > Due.MISSING ? 1 : 0, 1);
            Due.same("states of change " + kind, log.count(7), 1);
            Due.same("undo() of change " + kind, log.undo(), 0);
            Due.same("undo() of change " + kind, Seen.lining(log), before);
        }
    }

    private static void sameValueIsAChange() {
        Due.about("each change records everything before it, also one that leaves all as it was");
        LiningLog log = new LiningLog();
        Due.same("rate", log.rate(2, 10), 10);
        Due.same("states", log.count(7), 1);
        Due.same("set", log.set(5, 20), 20);
        Due.same("states", log.count(7), 2);
        Due.same("gun, nothing stays and the stock decreases", log.gun(0, 1), 0);
        Due.same("states", log.count(7), 3);
        Due.same("run of no line", log.run(), 0);
        Due.same("states", log.count(7), 4);
        for (int left = 3; left >= 0; left--) {
            Due.same("undo()", log.undo(), left);
        }
        Due.same("stock", log.count(24), 20000);
    }

    private static void callsThatAreNoChanges() {
        Due.about("no other call is a change");
        LiningLog log = new LiningLog();
        log.scan();
        log.heat(1600, 0);
        log.scan();
        String before = Seen.lining(log);
        log.heatsLeft(1600, 0);
        log.firstThrough(1600, 0);
        log.bestSpot(100, 1600, 0);
        log.wear(3, 1600, 0);
        log.peaks(0);
        log.trend(0);
        log.heatsByTrend(0);
        log.neighbour(0, 0);
        log.type('s');
        log.fault();
        log.clearText();
        log.reason();
        Due.same("states", log.count(7), 3);
        Due.same("asking and typing", Seen.lining(log), before);
        Due.same("undo() takes the scan", log.undo(), 2);
        Due.same("scans", log.count(6), 1);
    }

    private static void fifthStateDropsTheOldest() {
        Due.about("if there are 5 states then, the oldest one is dropped");
        for (int changes = 0; changes <= 9; changes++) {
            LiningLog log = new LiningLog();
            for (int change = 1; change <= changes; change++) {
                log.rate(0, change);
                Due.same("states", log.count(7), Math.min(change, 4));
            }
            int kept = Math.min(changes, 4);
            for (int undone = 1; undone <= kept; undone++) {
                Due.same("undo() " + undone + " of " + changes, log.undo(), kept - undone);
                int due = changes == undone ? 10 : changes - undone;
                Due.same("rate behind undo() " + undone + " of " + changes, log.spot(0, 7), due);
            }
            Due.same("none left", log.undo(), Due.IMPOSSIBLE);
            Due.same("rate stays", log.spot(0, 7), changes <= 4 ? 10 : changes - 4);
        }
    }

    private static void undoOnAndOn() {
        Due.about("Restores the latest state of the history, which is removed from it");
        LiningLog log = new LiningLog();
        List<Integer> kept = new ArrayList<>();
        int rate = 10;
        // Two changes and an undo, over and over: the history's rows go around more than once.
        for (int round = 0; round < 40; round++) {
            boolean back = round % 3 == 2;
            if (back) {
                rate = kept.remove(kept.size() - 1);
                Due.same("undo()", log.undo(), kept.size());
            } else {
                kept.add(rate);
                rate = round;
                log.rate(1, round);
                if (kept.size() > 4) {
                    kept.remove(0);
                }
            }
            Due.same("rate in round " + round, log.spot(6, 7), rate);
            Due.same("states in round " + round, log.count(7), kept.size());
        }
    }

    private static void undoneThenChanged() {
        Due.about("which is removed from it");
        LiningLog log = new LiningLog();
        log.rate(0, 1);
        log.rate(0, 2);
        log.undo();
        log.rate(0, 3);
        log.undo();
        Due.same("the state ahead of it", log.spot(0, 7), 1);
        log.undo();
        Due.same("the first state", log.spot(0, 7), 10);
        Due.same("nothing more", log.undo(), Due.IMPOSSIBLE);
    }

    private static void everythingIsRecorded() {
        Due.about("each change records everything before it");
        for (int kind = 0; kind < CHANGES.size(); kind++) {
            LiningLog log = new LiningLog();
            log.begin(2, 3);
            log.set(2, 90000);
            log.set(5, 2);
            log.rate(1, 31);
            log.gun(2, 400);
            log.scan();
            log.heat(1650, 30);
            log.heat(1650, 30);
            log.scan();
            Due.text(log, "h1500,0;g1,77;s;r0;");
            String before = Seen.lining(log);
            int trend = log.trend(2);
            int left = log.heatsLeft(1700, 50);
            CHANGES.get(kind).on(log);
            // Half of the changes are followed by others, which drop two more states and are undone too.
            boolean followed = kind % 2 == 0;
            if (followed) {
                log.heat(1800, 100);
                log.scan();
                log.undo();
                log.undo();
            }
            Due.same("undo() of change " + kind, log.undo(), followed ? 1 : 3);
            Due.same("undo() of change " + kind, Seen.lining(log), before);
            Due.same("trend of then", log.trend(2), trend);
            Due.same("heats left then", log.heatsLeft(1700, 50), left);
        }
    }

    private static void notTheTextAndTheReason() {
        Due.about("everything before it but the text and the latest reason");
        LiningLog log = new LiningLog();
        log.set(4, 0);
        Due.text(log, "g0,1;");
        log.run();
        Due.same("refused", log.reason(), 3);
        log.undo();
        log.undo();
        Due.same("reason() stays", log.reason(), 3);
        Due.same("length stays", log.count(8), 5);
        Due.same("all else is undone: run() now", log.run(), 1);
        Due.same("reason() of the latest refused one", log.reason(), 3);
        log.clearText();
        log.undo();
        Due.same("what was cleared stays so", log.count(8), 0);
    }

    private static void otherSizes() {
        Due.about("begin is undone like other changes, whatever the sizes");
        int[][] sizes = {{6, 10}, {1, 3}, {2, 9}, {6, 3}};
        LiningLog log = new LiningLog();
        log.heat(1600, 0);
        for (int[] size : sizes) {
            log.begin(size[0], size[1]);
        }
        for (int at = sizes.length - 2; at >= 0; at--) {
            Due.same("undo()", log.undo(), at + 1);
            Due.same("rings", log.count(0), sizes[at][0]);
            Due.same("sectors", log.count(1), sizes[at][1]);
            Due.same("last spot", log.spot(sizes[at][0] * sizes[at][1] - 1, 2), 3000);
            Due.same("no spot", log.spot(sizes[at][0] * sizes[at][1], 2), Due.INVALID);
        }
        log.undo();
        Due.same("the first lining: rings", log.count(0), 3);
        Due.same("the first lining: heats", log.count(2), 1);
        Due.same("the first lining: last spot", log.spot(17, 2), 2990);
    }

    private static void beginIsOnlyAChange() {
        Due.about("heats, campaigns, scans and accounts begin anew; the history goes on");
        LiningLog log = new LiningLog();
        log.scan();
        log.heat(1600, 0);
        log.scan();
        log.begin(4, 4);
        Due.same("states", log.count(7), 4);
        log.scan();
        Due.same("scans of the new one", log.count(6), 1);
        log.undo();
        Due.same("undo() of begin", log.undo(), 2);
        Due.same("scans are back", log.count(6), 2);
        Due.same("their thicknesses too", log.scanned(1, 17, 1), 2990);
        Due.same("their heats too", log.scanned(0, 17, 4), 0);
        Due.same("trend", log.trend(17), 1000);
    }

    private static void campaignsAreRestored() {
        Due.about("everything: also that a campaign is over, and its number and heats");
        LiningLog log = HeatsTest.overLining();
        log.reline(-1);
        log.heat(1600, 0);
        Due.same("campaign", log.count(4), 2);
        Due.same("heats of it", log.count(3), 1);
        log.undo();
        log.undo();
        Due.same("over again", log.count(5), 1);
        Due.same("campaign", log.count(4), 1);
        Due.same("heats of it", log.count(3), 11);
        Due.same("heat", log.heat(1600, 0), Due.IMPOSSIBLE);
        log.undo();
        Due.same("ahead of the last heat", log.count(5), 0);
        Due.same("heats of it", log.count(3), 10);
        Due.same("heat", log.heat(1600, 0), 150);
    }
}
