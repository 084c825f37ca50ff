import java.util.Random;

/** Long runs of calls by fixed seeds, each answer compared with that of the model. */
public final class RandomRunsTest {
    private static final int RUNS = 400;
    private static final int CALLS = 512;
    /** More than the calls that type a text, look at it and run it. */
    private static final int TYPING = 100;

    private final Random random;
    private final LiningLog log = new LiningLog();
    private final Model model = new Model();
    private final int wildness;

    private RandomRunsTest(int seed) {
        random = new Random(seed);
        wildness = 10 + random.nextInt(60);
    }

    public static void main(String[] args) {
        for (int seed = 0; seed < RUNS; seed++) {
            new RandomRunsTest(seed).play("run " + seed);
        }
        Due.end("RandomRunsTest");
    }

    private void play(String run) {
        int made = 0;
        while (made < CALLS) {
            boolean typing = random.nextInt(12) == 0 && made + TYPING <= CALLS;
            made += typing ? typeLines(run, made) : one(run, made);
        }
    }

    /** A number of the range, at times one beside it or far away. */
    private int number(int low, int high) {
        int kind = random.nextInt(wildness);
        if (kind == 0) {
            return random.nextBoolean() ? low - 1 : high + 1;
        }
        if (kind == 1) {
            return random.nextBoolean() ? Due.WILD[random.nextInt(Due.WILD.length)] : random.nextInt();
        }
        if (kind < 5) {
            return random.nextBoolean() ? low : high;
        }
        return low + random.nextInt(high - low + 1);
    }

    private int temperature() {
        return number(1400, 1800);
    }

    private int slag() {
        return number(0, 100);
    }

    private int aSpot() {
        return number(0, model.count(0) * model.count(1) - 1);
    }

    private int aRing() {
        return number(0, model.count(0) - 1);
    }

    private int one(String run, int at) {
        String when = run + " call " + at + " ";
        int kind = random.nextInt(100);
        if (kind < 62) {
            change(when, kind);
        } else if (kind < 90) {
            ask(when, random.nextInt(10));
        } else {
            plan(when, random.nextInt(12));
        }
        return 1;
    }

    private void change(String when, int kind) {
        if (kind < 1) {
            int rings = number(1, 6);
            int sectors = number(3, 10);
            Due.same(when + "begin(" + rings + ", " + sectors + ")", log.begin(rings, sectors), model.begin(rings, sectors));
        } else if (kind < 6) {
            int ring = aRing();
            int value = number(0, 50);
            Due.same(when + "rate(" + ring + ", " + value + ")", log.rate(ring, value), model.rate(ring, value));
        } else if (kind < 11) {
            setSomething(when);
        } else if (kind < 33) {
            int temperature = temperature();
            int slag = slag();
            Due.same(when + "heat(" + temperature + ", " + slag + ")", log.heat(temperature, slag), model.heat(temperature, slag));
        } else if (kind < 47) {
            int spot = aSpot();
            int amount = number(1, 500);
            Due.same(when + "gun(" + spot + ", " + amount + ")", log.gun(spot, amount), model.gun(spot, amount));
        } else if (kind < 50) {
            int ring = number(-1, model.count(0) - 1);
            Due.same(when + "reline(" + ring + ")", log.reline(ring), model.reline(ring));
        } else if (kind < 56) {
            Due.same(when + "scan()", log.scan(), model.scan());
        } else {
            Due.same(when + "undo()", log.undo(), model.undo());
        }
    }

    private void setSomething(String when) {
        int[][] ranges = {{0, 2000}, {1, 500}, {1000, 100000}, {50, 1000}, {0, 100000}, {1, 100}};
        int what = number(0, 5);
        int[] range = what >= 0 && what < 6 ? ranges[what] : ranges[0];
        int value = number(range[0], range[1]);
        if (what == 3 && random.nextInt(3) > 0) {
            value = 50 + random.nextInt(30);
        } else if (what == 5 && random.nextBoolean()) {
            value = 1 + random.nextInt(4);
        } else if (what == 4 && random.nextBoolean()) {
            value = random.nextInt(400);
        } else if (what == 1 && random.nextBoolean()) {
            value = 1 + random.nextInt(20);
        }
        Due.same(when + "set(" + what + ", " + value + ")", log.set(what, value), model.set(what, value));
    }

    private void ask(String when, int kind) {
        int spot = aSpot();
        if (kind == 0) {
            int what = random.nextBoolean() ? number(0, 10) : number(20, 25);
            Due.same(when + "count(" + what + ")", log.count(what), model.count(what));
        } else if (kind < 3) {
            int what = number(0, 7);
            Due.same(when + "spot(" + spot + ", " + what + ")", log.spot(spot, what), model.spot(spot, what));
        } else if (kind == 3) {
            int index = number(0, 4);
            Due.same(when + "neighbour(" + spot + ", " + index + ")", log.neighbour(spot, index), model.neighbour(spot, index));
        } else if (kind == 4) {
            int what = number(0, 4);
            Due.same(when + "account(" + what + ")", log.account(what), model.account(what));
        } else if (kind < 7) {
            int scan = number(0, 3);
            int what = number(0, 4);
            Due.same(when + "scanned(" + scan + ", " + spot + ", " + what + ")",
                    log.scanned(scan, spot, what), model.scanned(scan, spot, what));
        } else if (kind == 7) {
            int scan = number(0, 3);
            Due.same(when + "peaks(" + scan + ")", log.peaks(scan), model.peaks(scan));
        } else if (kind == 8) {
            Due.same(when + "trend(" + spot + ")", log.trend(spot), model.trend(spot));
        } else {
            Due.same(when + "heatsByTrend(" + spot + ")", log.heatsByTrend(spot), model.heatsByTrend(spot));
        }
    }

    private void plan(String when, int kind) {
        int temperature = temperature();
        int slag = slag();
        String heat = temperature + ", " + slag + ")";
        if (kind < 3) {
            Due.same(when + "heatsLeft(" + heat, log.heatsLeft(temperature, slag), model.heatsLeft(temperature, slag));
        } else if (kind < 6) {
            Due.same(when + "firstThrough(" + heat, log.firstThrough(temperature, slag), model.firstThrough(temperature, slag));
        } else if (kind == 6) {
            int amount = number(1, 500);
            Due.same(when + "bestSpot(" + amount + ", " + heat,
                    log.bestSpot(amount, temperature, slag), model.bestSpot(amount, temperature, slag));
        } else {
            int spot = aSpot();
            Due.same(when + "wear(" + spot + ", " + heat,
                    log.wear(spot, temperature, slag), model.wear(spot, temperature, slag));
        }
    }

    private int typeLines(String run, int at) {
        String when = run + " call " + at + " ";
        StringBuilder lines = new StringBuilder();
        int number = random.nextInt(5);
        for (int line = 0; line < number; line++) {
            lines.append(line());
        }
        if (lines.length() > 0 && random.nextInt(4) == 0) {
            int spoilt = random.nextInt(lines.length());
            lines.setCharAt(spoilt, "hgsr;,0159 x".charAt(random.nextInt(12)));
        }
        if (random.nextInt(3) > 0) {
            Due.same(when + "clearText()", log.clearText(), model.clearText());
        }
        for (int sign = 0; sign < lines.length(); sign++) {
            int character = random.nextInt(300) == 0 ? number(32, 126) : lines.charAt(sign);
            Due.same(when + "type(" + character + ")", log.type(character), model.type(character));
        }
        Due.same(when + "fault() of " + lines, log.fault(), model.fault());
        Due.same(when + "run() of " + lines, log.run(), model.run());
        Due.same(when + "reason()", log.reason(), model.reason());
        return lines.length() + 4;
    }

    private String line() {
        int kind = random.nextInt(8);
        if (kind < 3) {
            return "h" + shown(temperature()) + "," + shown(slag()) + ";";
        }
        if (kind < 6) {
            return "g" + shown(aSpot()) + "," + shown(number(1, 500)) + ";";
        }
        return kind == 6 ? "s;" : "r" + shown(aRing()) + ";";
    }

    private String shown(int value) {
        String zeros = random.nextInt(6) == 0 ? "00".substring(random.nextInt(2)) : "";
        return zeros + value % 100000;
    }
}
