import java.util.ArrayDeque;
import java.util.ArrayList;
import java.util.Deque;
import java.util.List;
import java.util.regex.Matcher;
import java.util.regex.Pattern;

/**
 * The document once more, written for being read beside it and with no eye on what it costs: states
 * are copied whole, neighbours are looked for, lines are matched by expressions.
 */
final class Model {
    private static final Pattern HEAT = Pattern.compile("h([0-9]{1,4}),([0-9]{1,4});");
    private static final Pattern GUN = Pattern.compile("g([0-9]{1,4}),([0-9]{1,4});");
    private static final Pattern SCAN = Pattern.compile("s;");
    private static final Pattern RELINE = Pattern.compile("r([0-9]{1,4});");
    private static final int[][] SETTINGS = {{0, 2000, 800}, {1, 500, 50}, {1000, 100000, 30000},
        {50, 1000, 60}, {0, 100000, 20000}, {1, 100, 20}};

    private static final class Spot {
        int ring;
        int place;
        int brick = 3000;
        int layer;

        int thick() {
            return brick + layer;
        }
    }

    private record Shell(int heat, List<Integer> temperatures, List<Integer> thicknesses) {
    }

    private static final class World {
        int rings;
        int sectors;
        List<Spot> spots = new ArrayList<>();
        List<Integer> rates = new ArrayList<>();
        List<Integer> settings = new ArrayList<>();
        List<Shell> shells = new ArrayList<>();
        int heats;
        int campaignHeats;
        int campaign = 1;
        boolean over;
        int laid;
        int gunned;
        int worn;
        int broken;

        World(int rings, int sectors) {
            this.rings = rings;
            this.sectors = sectors;
            for (int ring = 0; ring < rings; ring++) {
                rates.add(10);
                for (int place = 0; place < sectors; place++) {
                    Spot spot = new Spot();
                    spot.ring = ring;
                    spot.place = place;
                    spots.add(spot);
                }
            }
            for (int[] setting : SETTINGS) {
                settings.add(setting[2]);
            }
            laid = 3000 * spots.size();
        }

        World copy() {
            World copy = new World(rings, sectors);
            for (int number = 0; number < spots.size(); number++) {
                copy.spots.get(number).brick = spots.get(number).brick;
                copy.spots.get(number).layer = spots.get(number).layer;
            }
            copy.rates = new ArrayList<>(rates);
            copy.settings = new ArrayList<>(settings);
            copy.shells = new ArrayList<>(shells);
            copy.heats = heats;
            copy.campaignHeats = campaignHeats;
            copy.campaign = campaign;
            copy.over = over;
            copy.laid = laid;
            copy.gunned = gunned;
            copy.worn = worn;
            copy.broken = broken;
            return copy;
        }

        List<Integer> neighbours(int number) {
            Spot own = spots.get(number);
            List<Integer> found = new ArrayList<>();
            for (int other = 0; other < spots.size(); other++) {
                Spot spot = spots.get(other);
                int apart = Math.floorMod(spot.place - own.place, sectors);
                boolean beside = spot.ring == own.ring && (apart == 1 || apart == sectors - 1);
                boolean across = apart == 0 && Math.abs(spot.ring - own.ring) == 1;
                if (beside || across) {
                    found.add(other);
                }
            }
            return found;
        }

        int standingOut(int number) {
            int least = neighbours(number).stream().mapToInt(other -> spots.get(other).thick()).min().getAsInt();
            return spots.get(number).thick() - least;
        }

        int temperature(int number) {
            return 40 + settings.get(2) / (spots.get(number).thick() + 100);
        }

        int wear(int number, int temperature, int slag) {
            int factor = 100 + (int) Math.floor((temperature - 1600) / 4.0) + (int) Math.floor(slag / 2.0);
            int wear = (int) Math.floor(rates.get(spots.get(number).ring) * factor / 100.0);
            int difference = standingOut(number);
            if (difference >= settings.get(1)) {
                wear += difference / settings.get(1);
            }
            return Math.max(wear, 0);
        }

        int heat(int temperature, int slag) {
            List<Integer> wears = new ArrayList<>();
            for (int number = 0; number < spots.size(); number++) {
                wears.add(wear(number, temperature, slag));
            }
            int lost = 0;
            for (int number = 0; number < spots.size(); number++) {
                Spot spot = spots.get(number);
                int before = spot.thick();
                int wear = wears.get(number);
                if (spot.layer >= 2 * wear) {
                    spot.layer -= 2 * wear;
                } else {
                    spot.brick = Math.max(0, spot.brick - (wear - spot.layer / 2));
                    spot.layer = 0;
                }
                lost += before - spot.thick();
            }
            worn += lost;
            heats++;
            campaignHeats++;
            if (campaignHeats % settings.get(5) == 0) {
                for (Spot spot : spots) {
                    broken += spot.layer / 2;
                    spot.layer -= spot.layer / 2;
                }
            }
            over = spots.stream().anyMatch(spot -> spot.thick() < settings.get(0));
            return lost;
        }

        int stays(int number, int amount) {
            return temperature(number) >= settings.get(3) ? amount * 4 / 5 : amount * 3 / 5;
        }

        int refusal(int number, int amount) {
            if (over) {
                return 1;
            }
            if (spots.get(number).thick() + stays(number, amount) > 3500) {
                return 2;
            }
            return settings.get(4) < amount ? 3 : 0;
        }

        int gun(int number, int amount) {
            int stays = stays(number, amount);
            spots.get(number).layer += stays;
            settings.set(4, settings.get(4) - amount);
            gunned += stays;
            return stays;
        }

        int reline(int ring) {
            int out = 0;
            for (Spot spot : spots) {
                if (ring == -1 || spot.ring == ring) {
                    out += spot.thick();
                    spot.brick = 3000;
                    spot.layer = 0;
                    laid += 3000;
                }
            }
            broken += out;
            if (ring == -1) {
                campaign++;
                campaignHeats = 0;
                over = false;
            }
            return out;
        }

        int scan() {
            List<Integer> temperatures = new ArrayList<>();
            List<Integer> thicknesses = new ArrayList<>();
            for (int number = 0; number < spots.size(); number++) {
                temperatures.add(temperature(number));
                thicknesses.add(spots.get(number).thick());
            }
            shells.add(new Shell(heats, temperatures, thicknesses));
            if (shells.size() > 4) {
                shells.remove(0);
            }
            return (int) temperatures.stream().filter(warm -> warm >= settings.get(3)).count();
        }

        boolean hot(Shell shell, int number) {
            return shell.temperatures().get(number) >= settings.get(3);
        }

        boolean peak(Shell shell, int number) {
            int own = shell.temperatures().get(number);
            return hot(shell, number) && neighbours(number).stream().noneMatch(other ->
                shell.temperatures().get(other) > own
                    || shell.temperatures().get(other) == own && other < number);
        }

        /** The heats until the campaign is over, 301 if it is not over after 300. */
        int left(int temperature, int slag) {
            int made = 0;
            while (!over && made < 300) {
                heat(temperature, slag);
                made++;
            }
            return over ? made : 301;
        }
    }

    private World now = new World(3, 6);
    private final Deque<World> history = new ArrayDeque<>();
    private final StringBuilder text = new StringBuilder();
    private int latestReason;

    private void change() {
        history.addLast(now.copy());
        if (history.size() > 4) {
            history.removeFirst();
        }
    }

    private static boolean in(int value, int low, int high) {
        return low <= value && value <= high;
    }

    private boolean isSpot(int spot) {
        return in(spot, 0, now.spots.size() - 1);
    }

    private static boolean isHeat(int temperature, int slag) {
        return in(temperature, 1400, 1800) && in(slag, 0, 100);
    }

    int begin(int rings, int sectors) {
        if (!in(rings, 1, 6) || !in(sectors, 3, 10)) {
            return Due.INVALID;
        }
        change();
        now = new World(rings, sectors);
        return rings * sectors;
    }

    int rate(int ring, int value) {
        if (!in(ring, 0, now.rings - 1) || !in(value, 0, 50)) {
            return Due.INVALID;
        }
        change();
        return now.rates.set(ring, value);
    }

    int set(int what, int value) {
        if (!in(what, 0, 5) || !in(value, SETTINGS[what][0], SETTINGS[what][1])) {
            return Due.INVALID;
        }
        change();
        return now.settings.set(what, value);
    }

    int heat(int temperature, int slag) {
        if (!isHeat(temperature, slag)) {
            return Due.INVALID;
        }
        if (now.over) {
            return Due.IMPOSSIBLE;
        }
        change();
        return now.heat(temperature, slag);
    }

    int gun(int spot, int amount) {
        if (!isSpot(spot) || !in(amount, 1, 500)) {
            return Due.INVALID;
        }
        int refusal = now.refusal(spot, amount);
        if (refusal != 0) {
            return refusal == 3 ? Due.REACHED : Due.IMPOSSIBLE;
        }
        change();
        return now.gun(spot, amount);
    }

    int reline(int ring) {
        if (!in(ring, -1, now.rings - 1)) {
            return Due.INVALID;
        }
        change();
        return now.reline(ring);
    }

    int scan() {
        change();
        return now.scan();
    }

    int undo() {
        if (history.isEmpty()) {
            return Due.IMPOSSIBLE;
        }
        now = history.removeLast();
        return history.size();
    }

    int count(int what) {
        if (in(what, 20, 25)) {
            return now.settings.get(what - 20);
        }
        return switch (what) {
            case 0 -> now.rings;
            case 1 -> now.sectors;
            case 2 -> now.heats;
            case 3 -> now.campaignHeats;
            case 4 -> now.campaign;
            case 5 -> now.over ? 1 : 0;
            case 6 -> now.shells.size();
            case 7 -> history.size();
            case 8 -> text.length();
            case 9 -> (int) now.spots.stream().filter(spot -> spot.layer > 0).count();
            case 10 -> now.spots.stream().mapToInt(Spot::thick).min().getAsInt();
            default -> Due.INVALID;
        };
    }

    int spot(int spot, int what) {
        if (!isSpot(spot)) {
            return Due.INVALID;
        }
        Spot asked = now.spots.get(spot);
        return switch (what) {
            case 0 -> asked.brick;
            case 1 -> asked.layer;
            case 2 -> asked.thick();
            case 3 -> now.temperature(spot);
            case 4 -> now.standingOut(spot);
            case 5 -> now.neighbours(spot).size();
            case 6 -> asked.ring;
            case 7 -> now.rates.get(asked.ring);
            default -> Due.INVALID;
        };
    }

    int neighbour(int spot, int index) {
        if (!isSpot(spot) || index < 0) {
            return Due.INVALID;
        }
        List<Integer> found = now.neighbours(spot);
        return index < found.size() ? found.get(index) : Due.MISSING;
    }

    int account(int what) {
        return switch (what) {
            case 0 -> now.laid;
            case 1 -> now.gunned;
            case 2 -> now.worn;
            case 3 -> now.broken;
            case 4 -> now.spots.stream().mapToInt(Spot::thick).sum();
            default -> Due.INVALID;
        };
    }

    int scanned(int scan, int spot, int what) {
        if (!in(scan, 0, now.shells.size() - 1) || !isSpot(spot)) {
            return Due.INVALID;
        }
        Shell shell = now.shells.get(scan);
        return switch (what) {
            case 0 -> shell.temperatures().get(spot);
            case 1 -> shell.thicknesses().get(spot);
            case 2 -> now.hot(shell, spot) ? 1 : 0;
            case 3 -> now.peak(shell, spot) ? 1 : 0;
            case 4 -> shell.heat();
            default -> Due.INVALID;
        };
    }

    int peaks(int scan) {
        if (!in(scan, 0, now.shells.size() - 1)) {
            return Due.INVALID;
        }
        int peaks = 0;
        for (int spot = 0; spot < now.spots.size(); spot++) {
            peaks += scanned(scan, spot, 3);
        }
        return peaks;
    }

    int trend(int spot) {
        if (!isSpot(spot)) {
            return Due.INVALID;
        }
        int kept = now.shells.size();
        if (kept < 2 || now.shells.get(kept - 1).heat() == now.shells.get(kept - 2).heat()) {
            return Due.MISSING;
        }
        Shell before = now.shells.get(kept - 2);
        Shell latest = now.shells.get(kept - 1);
        double lost = before.thicknesses().get(spot) - latest.thicknesses().get(spot);
        return (int) Math.floor(lost * 100 / (latest.heat() - before.heat()));
    }

    int heatsByTrend(int spot) {
        int trend = trend(spot);
        if (trend == Due.INVALID) {
            return Due.INVALID;
        }
        if (trend == Due.MISSING || trend <= 0 || now.spots.get(spot).thick() < now.settings.get(0)) {
            return Due.MISSING;
        }
        return 100 * (now.spots.get(spot).thick() - now.settings.get(0)) / trend;
    }

    int heatsLeft(int temperature, int slag) {
        if (!isHeat(temperature, slag)) {
            return Due.INVALID;
        }
        int left = now.copy().left(temperature, slag);
        return left == 301 ? Due.MISSING : left;
    }

    int firstThrough(int temperature, int slag) {
        if (!isHeat(temperature, slag)) {
            return Due.INVALID;
        }
        if (now.over) {
            return Due.IMPOSSIBLE;
        }
        World plan = now.copy();
        for (int made = 0; made < 300; made++) {
            plan.heat(temperature, slag);
            for (int spot = 0; spot < plan.spots.size(); spot++) {
                if (plan.spots.get(spot).thick() < plan.settings.get(0)) {
                    return spot;
                }
            }
        }
        return Due.MISSING;
    }

    int bestSpot(int amount, int temperature, int slag) {
        if (!in(amount, 1, 500) || !isHeat(temperature, slag)) {
            return Due.INVALID;
        }
        int best = Due.IMPOSSIBLE;
        int most = -1;
        for (int spot = 0; spot < now.spots.size(); spot++) {
            if (now.refusal(spot, amount) == 0) {
                World plan = now.copy();
                plan.gun(spot, amount);
                int left = plan.left(temperature, slag);
                if (left > most) {
                    most = left;
                    best = spot;
                }
            }
        }
        return best;
    }

    int wear(int spot, int temperature, int slag) {
        return isSpot(spot) && isHeat(temperature, slag) ? now.wear(spot, temperature, slag) : Due.INVALID;
    }

    int type(int character) {
        if (!in(character, 32, 126)) {
            return Due.INVALID;
        }
        if (text.length() == 100) {
            return Due.REACHED;
        }
        text.append((char) character);
        return text.length();
    }

    int clearText() {
        int length = text.length();
        text.setLength(0);
        return length;
    }

    /** The lines with their semicolons; what stands behind the last semicolon is the last of them. */
    private List<String> lines() {
        List<String> lines = new ArrayList<>();
        String rest = text.toString();
        while (!rest.isEmpty()) {
            int end = rest.indexOf(';') < 0 ? rest.length() : rest.indexOf(';') + 1;
            lines.add(rest.substring(0, end));
            rest = rest.substring(end);
        }
        return lines;
    }

    private static int number(Matcher line, int group) {
        return Integer.parseInt(line.group(group));
    }

    private boolean isRight(String line) {
        Matcher heat = HEAT.matcher(line);
        Matcher gun = GUN.matcher(line);
        Matcher reline = RELINE.matcher(line);
        return SCAN.matcher(line).matches()
            || heat.matches() && isHeat(number(heat, 1), number(heat, 2))
            || gun.matches() && isSpot(number(gun, 1)) && in(number(gun, 2), 1, 500)
            || reline.matches() && number(reline, 1) < now.rings;
    }

    int fault() {
        int position = 0;
        for (String line : lines()) {
            if (!isRight(line)) {
                return position;
            }
            position += line.length();
        }
        return Due.MISSING;
    }

    private int carryOut(String line) {
        Matcher heat = HEAT.matcher(line);
        Matcher gun = GUN.matcher(line);
        Matcher reline = RELINE.matcher(line);
        if (heat.matches()) {
            if (now.over) {
                return 1;
            }
            now.heat(number(heat, 1), number(heat, 2));
        } else if (gun.matches()) {
            int refusal = now.refusal(number(gun, 1), number(gun, 2));
            if (refusal != 0) {
                return refusal;
            }
            now.gun(number(gun, 1), number(gun, 2));
        } else if (reline.matches()) {
            now.reline(number(reline, 1));
        } else {
            now.scan();
        }
        return 0;
    }

    int run() {
        if (fault() != Due.MISSING) {
            return Due.IMPOSSIBLE;
        }
        change();
        int carried = 0;
        for (String line : lines()) {
            int refusal = carryOut(line);
            if (refusal != 0) {
                latestReason = refusal;
                return carried;
            }
            carried++;
        }
        return carried;
    }

    int reason() {
        return latestReason;
    }
}
