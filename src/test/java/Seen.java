import java.util.function.IntUnaryOperator;

/** What a log answers to all that can be asked of it, as a text, so that two states can be compared. */
final class Seen {
    private static final int[] COUNTS = {0, 1, 2, 3, 4, 5, 6, 9, 10, 20, 21, 22, 23, 24, 25};

    private Seen() {
    }

    /** All that an undo restores. */
    static String lining(LiningLog log) {
        StringBuilder all = new StringBuilder();
        row(all, "counts", COUNTS.length, at -> log.count(COUNTS[at]));
        row(all, "accounts", 5, log::account);
        int spots = log.count(0) * log.count(1);
        row(all, "brick", spots, spot -> log.spot(spot, 0));
        row(all, "layers", spots, spot -> log.spot(spot, 1));
        row(all, "rates", log.count(0), ring -> log.spot(ring * log.count(1), 7));
        for (int scan = 0; scan < log.count(6); scan++) {
            int asked = scan;
            row(all, "temperatures", spots, spot -> log.scanned(asked, spot, 0));
            row(all, "thicknesses", spots, spot -> log.scanned(asked, spot, 1));
            row(all, "heat", 1, spot -> log.scanned(asked, spot, 4));
        }
        return all.toString();
    }

    /** The lining with what an undo leaves as it is: the text and the latest reason, and the history. */
    static String all(LiningLog log) {
        return lining(log) + " states " + log.count(7) + " text " + log.count(8) + " " + log.fault()
                + " reason " + log.reason();
    }

    /** All of it now and behind each undo, until the history is empty: the kept states are seen too. */
    static String story(LiningLog log) {
        StringBuilder story = new StringBuilder(all(log));
        while (log.count(7) > 0) {
            log.undo();
            story.append(" | ").append(all(log));
        }
        return story.toString();
    }

    private static void row(StringBuilder all, String name, int number, IntUnaryOperator asked) {
        all.append(name);
        for (int at = 0; at < number; at++) {
            all.append(' ').append(asked.applyAsInt(at));
        }
        all.append("; ");
    }
}
