import java.util.Random;

/**
 * What holds for any call in any state, whatever the answer is: no call throws, an error is one that
 * the promise of the call names and changes nothing, a change adds a state that undo brings back, a
 * question changes nothing, and all numbers stay in the document's bounds.
 */
public final class AnyCallsTest {
    private static final int RUNS = 60;
    /** With the questions that one log is asked behind them these stay below 512 calls. */
    private static final int CALLS = 200;
    private static final int QUESTIONS = 300;
    private static final int LONG_RUNS = 4;
    private static final int CALLS_OF_LONG_RUNS = 20000;

    private static final int NAMES_INVALID = 1;
    private static final int NAMES_IMPOSSIBLE = 2;
    private static final int NAMES_REACHED = 4;
    private static final int NAMES_MISSING = 8;
    private static final int[][] SETTINGS = {{0, 2000}, {1, 500}, {1000, 100000}, {50, 1000}, {0, 100000}, {1, 100}};

    /** A move is no change, but no question either: the text, the history. */
    private enum Role { CHANGE, MOVE, QUESTION }

    private interface Asked {
        int on(LiningLog log, int first, int second, int third);
    }

    private record Kind(String name, int errors, Role role, Asked asked) {
    }

    private record Call(Kind kind, int first, int second, int third) {
        int on(LiningLog log) {
            try {
                return kind.asked().on(log, first, second, third);
            } catch (RuntimeException thrown) {
                Due.same(this + " threw " + thrown, 1, 0);
                return 0;
            }
        }

        @Override
        public String toString() {
            return kind.name() + "(" + first + ", " + second + ", " + third + ")";
        }
    }

    private static final Kind[] KINDS = {
        new Kind("begin", NAMES_INVALID, Role.CHANGE, (log, first, second, third) -> log.begin(first, second)),
        new Kind("rate", NAMES_INVALID, Role.CHANGE, (log, first, second, third) -> log.rate(first, second)),
        new Kind("set", NAMES_INVALID, Role.CHANGE, (log, first, second, third) -> log.set(first, second)),
        new Kind("heat", NAMES_INVALID | NAMES_IMPOSSIBLE, Role.CHANGE, (log, first, second, third) -> log.heat(first, second)),
        new Kind("gun", NAMES_INVALID | NAMES_IMPOSSIBLE | NAMES_REACHED, Role.CHANGE,
                (log, first, second, third) -> log.gun(first, second)),
        new Kind("reline", NAMES_INVALID, Role.CHANGE, (log, first, second, third) -> log.reline(first)),
        new Kind("scan", 0, Role.CHANGE, (log, first, second, third) -> log.scan()),
        new Kind("run", NAMES_IMPOSSIBLE, Role.CHANGE, (log, first, second, third) -> log.run()),
        new Kind("undo", NAMES_IMPOSSIBLE, Role.MOVE, (log, first, second, third) -> log.undo()),
        new Kind("count", NAMES_INVALID, Role.QUESTION, (log, first, second, third) -> log.count(first)),
        new Kind("spot", NAMES_INVALID, Role.QUESTION, (log, first, second, third) -> log.spot(first, second)),
        new Kind("neighbour", NAMES_INVALID | NAMES_MISSING, Role.QUESTION,
                (log, first, second, third) -> log.neighbour(first, second)),
        new Kind("account", NAMES_INVALID, Role.QUESTION, (log, first, second, third) -> log.account(first)),
        new Kind("scanned", NAMES_INVALID, Role.QUESTION, (log, first, second, third) -> log.scanned(first, second, third)),
        new Kind("peaks", NAMES_INVALID, Role.QUESTION, (log, first, second, third) -> log.peaks(first)),
        new Kind("trend", NAMES_INVALID | NAMES_MISSING, Role.QUESTION, (log, first, second, third) -> log.trend(first)),
        new Kind("heatsByTrend", NAMES_INVALID | NAMES_MISSING, Role.QUESTION,
                (log, first, second, third) -> log.heatsByTrend(first)),
        new Kind("heatsLeft", NAMES_INVALID | NAMES_MISSING, Role.QUESTION,
                (log, first, second, third) -> log.heatsLeft(first, second)),
        new Kind("firstThrough", NAMES_INVALID | NAMES_IMPOSSIBLE | NAMES_MISSING, Role.QUESTION,
                (log, first, second, third) -> log.firstThrough(first, second)),
        new Kind("bestSpot", NAMES_INVALID | NAMES_IMPOSSIBLE, Role.QUESTION,
                (log, first, second, third) -> log.bestSpot(first, second, third)),
        new Kind("wear", NAMES_INVALID, Role.QUESTION, (log, first, second, third) -> log.wear(first, second, third)),
        new Kind("type", NAMES_INVALID | NAMES_REACHED, Role.MOVE, (log, first, second, third) -> log.type(first)),
        new Kind("clearText", 0, Role.MOVE, (log, first, second, third) -> log.clearText()),
        new Kind("fault", NAMES_MISSING, Role.QUESTION, (log, first, second, third) -> log.fault()),
        new Kind("reason", 0, Role.QUESTION, (log, first, second, third) -> log.reason()),
    };

    private final Random random;
    /** The rest of a line that is being typed. */
    private String untyped = "";

    private AnyCallsTest(int seed) {
        random = new Random(seed);
    }

    public static void main(String[] args) {
        for (int seed = 0; seed < RUNS; seed++) {
            // Not by chance: what seeds that follow one another draw first is nearly the same.
            new AnyCallsTest(seed).play("run " + seed, seed % 4);
        }
        for (int seed = 0; seed < LONG_RUNS; seed++) {
            new AnyCallsTest(RUNS + seed).goOn();
        }
        Due.end("AnyCallsTest");
    }

    private void play(String run, int opening) {
        Call[] calls = new Call[CALLS];
        int opened = open(calls, opening);
        for (int made = opened; made < CALLS; made++) {
            calls[made] = aCall();
        }
        for (int made = random.nextInt(opened + 1); made < CALLS; made += 1 + random.nextInt(8)) {
            look(run + " call " + made + ", " + calls[made], calls, made);
        }
    }

    /** Leads some runs to where calls by chance come seldom: worn out, over without stock, a full text. */
    private int open(Call[] calls, int opening) {
        int made = 0;
        if (opening == 0) {
            return made;
        }
        if (opening == 3) {
            for (int sign = 0; sign < 100; sign++) {
                calls[made++] = new Call(kind("type"), "g0,9;".charAt(sign % 5), 0, 0);
            }
            return made;
        }
        calls[made++] = new Call(kind("set"), 0, opening == 1 ? 0 : 2000, 0);
        calls[made++] = new Call(kind("set"), 4, random.nextInt(300), 0);
        for (int ring = 0; ring < 3; ring++) {
            calls[made++] = new Call(kind("rate"), ring, 50 - ring, 0);
        }
        for (int heat = 0; heat < (opening == 1 ? 32 : 11); heat++) {
            calls[made++] = new Call(kind("heat"), 1780, 100, 0);
        }
        return made;
    }

    /** What calls behind the 512th answer is free, but they must not throw either. */
    private void goOn() {
        LiningLog log = new LiningLog();
        for (int made = 0; made < CALLS_OF_LONG_RUNS; made++) {
            aCall().on(log);
        }
    }

    /** A fresh log with these calls; questions among them are left out, but for the last call. */
    private static LiningLog after(Call[] calls, int number, int undos) {
        LiningLog log = new LiningLog();
        for (int made = 0; made < number; made++) {
            if (made == number - 1 || calls[made].kind().role() != Role.QUESTION) {
                calls[made].on(log);
            }
        }
        for (int made = 0; made < undos; made++) {
            log.undo();
        }
        return log;
    }

    private static void look(String call, Call[] calls, int made) {
        LiningLog before = after(calls, made, 0);
        LiningLog behind = after(calls, made, 0);
        Kind kind = calls[made].kind();
        int answer = calls[made].on(behind);
        int states = before.count(7);
        if (answer >= Due.MISSING && answer <= Due.INVALID) {
            int error = 1 << Due.INVALID - answer;
            Due.same(call + ": its promise names " + answer, kind.errors() & error, error);
            Due.same(call + ": an error changes nothing", story(calls, made + 1), story(calls, made));
            return;
        }
        boolean mayBeNegative = kind.name().equals("trend") || kind.name().equals("spot") && calls[made].second() == 4;
        Due.same(call + ": " + answer + " is no negative number", answer >= 0 || mayBeNegative ? 1 : 0, 1);
        if (kind.role() == Role.CHANGE) {
            Due.same(call + ": states", behind.count(7), Math.min(states + 1, 4));
            Due.same(call + ": undone", new Look(calls, made + 1, 1).lining(), new Look(calls, made, 0).lining());
        } else if (kind.name().equals("undo")) {
            Due.same(call + ": states", behind.count(7), states - 1);
            Due.same(call + ": the answer", answer, states - 1);
        } else if (kind.role() == Role.MOVE) {
            Due.same(call + ": states", behind.count(7), states);
            Due.same(call + ": the lining", new Look(calls, made + 1, 0).lining(), new Look(calls, made, 0).lining());
        } else {
            Due.same(call + ": asking changes nothing", story(calls, made + 1), story(calls, made));
        }
        new Look(calls, made + 1, 0).bounds(call);
    }

    /** All that there is, now and behind each undo. */
    private static String story(Call[] calls, int number) {
        LiningLog log = after(calls, number, 0);
        StringBuilder story = new StringBuilder();
        story.append("text ").append(log.count(8)).append(' ').append(log.fault()).append(" reason ").append(log.reason());
        int states = log.count(7);
        for (int undos = 0; undos <= states; undos++) {
            story.append(" | ").append(new Look(calls, number, undos).lining());
        }
        return story.toString();
    }

    /** Asks a log, and takes a fresh one with the same calls before it has been asked too much. */
    private static final class Look {
        private final Call[] calls;
        private final int number;
        private final int undos;
        private LiningLog log;
        private int asked;

        Look(Call[] calls, int number, int undos) {
            this.calls = calls;
            this.number = number;
            this.undos = undos;
            log = after(calls, number, undos);
        }

        LiningLog log() {
            if (asked >= QUESTIONS) {
                log = after(calls, number, undos);
                asked = 0;
            }
            asked++;
            return log;
        }

        String lining() {
            StringBuilder all = new StringBuilder();
            for (int what = 0; what <= 25; what++) {
                all.append(what == 7 || what == 8 ? 0 : log().count(what)).append(' ');
            }
            for (int what = 0; what <= 3; what++) {
                all.append(log().account(what)).append(' ');
            }
            int spots = log().count(0) * log().count(1);
            int scans = log().count(6);
            for (int spot = 0; spot < spots; spot++) {
                all.append(log().spot(spot, 0)).append('+').append(log().spot(spot, 1));
                all.append('/').append(log().spot(spot, 7)).append(' ');
                for (int scan = 0; scan < scans; scan++) {
                    all.append(log().scanned(scan, spot, 0)).append(':').append(log().scanned(scan, spot, 1)).append(' ');
                    all.append(log().scanned(scan, spot, 4)).append(' ');
                }
            }
            return all.toString();
        }

        void bounds(String call) {
            Due.balanced(call, log);
            for (int what = 0; what < SETTINGS.length; what++) {
                within(call + ": setting " + what, log().count(20 + what), SETTINGS[what][0], SETTINGS[what][1]);
            }
            within(call + ": scans", log().count(6), 0, 4);
            within(call + ": text", log().count(8), 0, 100);
            within(call + ": heats of the campaign", log().count(3), 0, log().count(2));
            within(call + ": campaign", log().count(4), 1, CALLS);
            within(call + ": reason", log().reason(), 0, 3);
            int spots = log().count(0) * log().count(1);
            for (int spot = 0; spot < spots; spot++) {
                int brick = log().spot(spot, 0);
                within(call + ": brick", brick, 0, 3000);
                within(call + ": layer", log().spot(spot, 1), 0, 3500 - brick);
            }
        }

        private static void within(String what, int value, int low, int high) {
            Due.same(what + " is " + value + ", of " + low + " to " + high, value >= low && value <= high ? 1 : 0, 1);
        }
    }

    private Call aCall() {
        if (!untyped.isEmpty()) {
            int sign = random.nextInt(60) == 0 ? wild() : untyped.charAt(0);
            untyped = untyped.substring(1);
            return new Call(kind("type"), sign, 0, 0);
        }
        int chosen = random.nextInt(100);
        if (chosen < 8) {
            untyped = line() + (random.nextInt(3) > 0 ? line() : "");
            return aCall(random.nextInt(3) > 0 ? "clearText" : "fault");
        }
        if (chosen < 16) {
            return aCall("run");
        }
        if (chosen < 32) {
            return aCall("heat");
        }
        return aCall(KINDS[random.nextInt(KINDS.length)].name());
    }

    private static Kind kind(String name) {
        for (Kind kind : KINDS) {
            if (kind.name().equals(name)) {
                return kind;
            }
        }
        throw new IllegalStateException(name);
    }

    private Call aCall(String name) {
        int[] at = switch (name) {
            case "begin" -> new int[] {number(1, 6), number(3, 10), 0};
            case "rate" -> new int[] {number(0, 2), number(0, 50), 0};
            case "set" -> aSetting(random.nextInt(SETTINGS.length));
            case "heat", "heatsLeft", "firstThrough" -> new int[] {number(1400, 1800), number(0, 100), 0};
            case "gun" -> new int[] {number(0, 17), number(1, 500), 0};
            case "reline" -> new int[] {number(-1, 2), 0, 0};
            case "count" -> new int[] {number(0, 25), 0, 0};
            case "spot" -> new int[] {number(0, 17), number(0, 7), 0};
            case "neighbour", "account" -> new int[] {number(0, 4), number(0, 4), 0};
            case "scanned" -> new int[] {number(0, 3), number(0, 17), number(0, 4)};
            case "peaks" -> new int[] {number(0, 3), 0, 0};
            case "trend", "heatsByTrend" -> new int[] {number(0, 17), 0, 0};
            case "bestSpot" -> new int[] {number(1, 500), number(1400, 1800), number(0, 100)};
            case "wear" -> new int[] {number(0, 17), number(1400, 1800), number(0, 100)};
            default -> new int[] {wild(), wild(), wild()};
        };
        return new Call(kind(name), at[0], at[1], at[2]);
    }

    private int[] aSetting(int what) {
        int[] range = SETTINGS[what];
        return new int[] {random.nextInt(12) == 0 ? wild() : what, number(range[0], range[1]), 0};
    }

    private String line() {
        return switch (random.nextInt(6)) {
            case 0 -> "s;";
            case 1 -> "r" + random.nextInt(4) + ";";
            case 2, 3 -> "g" + random.nextInt(19) + "," + random.nextInt(502) + ";";
            default -> "h" + (1400 + random.nextInt(401)) + "," + random.nextInt(102) + ";";
        };
    }

    /** A number of the range, one just beside it, or any. */
    private int number(int low, int high) {
        int chosen = random.nextInt(16);
        if (chosen == 0) {
            return wild();
        }
        if (chosen == 1) {
            return random.nextBoolean() ? low - 1 : high + 1;
        }
        return low + random.nextInt(high - low + 1);
    }

    private int wild() {
        return random.nextBoolean() ? Due.WILD[random.nextInt(Due.WILD.length)] : random.nextInt();
    }
}
