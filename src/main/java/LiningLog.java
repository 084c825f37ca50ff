/** A log of a firebrick lining; what each call does is told by the promises of the document. */
public final class LiningLog {
    public static final int INVALID_ARGUMENT = -1000001;
    public static final int NOT_POSSIBLE = -1000002;
    public static final int LIMIT_REACHED = -1000003;
    public static final int NOT_FOUND = -1000004;

    private static final int MOST_RINGS = 6;
    private static final int FEWEST_SECTORS = 3;
    private static final int MOST_SECTORS = 10;
    private static final int MOST_SPOTS = MOST_RINGS * MOST_SECTORS;
    private static final int FIRST_RINGS = 3;
    private static final int FIRST_SECTORS = 6;

    private static final int NEW_BRICK = 3000;
    private static final int MOST_THICKNESS = 3500;
    private static final int MOST_AMOUNT = 500;
    private static final int FIRST_RATE = 10;
    private static final int HIGHEST_RATE = 50;
    private static final int COOLEST = 1400;
    private static final int HOTTEST = 1800;
    private static final int HIGHEST_SLAG = 100;

    private static final int LIMIT = 0;
    private static final int STANDING_OUT = 1;
    private static final int SHELL_FACTOR = 2;
    private static final int HOT_THRESHOLD = 3;
    private static final int STOCK = 4;
    private static final int HEATS_FOR_REST = 5;
    private static final int SETTINGS = 6;
    private static final int[] LOWEST_SETTING = {0, 1, 1000, 50, 0, 1};
    private static final int[] HIGHEST_SETTING = {2000, 500, 100000, 1000, 100000, 100};
    private static final int[] FIRST_SETTING = {800, 50, 30000, 60, 20000, 20};
    private static final int FIRST_SETTING_COUNT = 20;

    private static final int LAID = 0;
    private static final int GUNNED = 1;
    private static final int WORN = 2;
    private static final int BROKEN_OUT = 3;
    private static final int KEPT_ACCOUNTS = 4;
    private static final int LEFT = 4;

    private static final int NOT_REFUSED = 0;
    private static final int REFUSED_OVER = 1;
    private static final int REFUSED_TOO_THICK = 2;
    private static final int REFUSED_STOCK = 3;

    private static final int KEPT_SCANS = 4;
    private static final int KEPT_STATES = 4;
    private static final int MOST_PLANNED_HEATS = 300;
    private static final int MOST_SIGNS = 100;
    private static final int MOST_DIGITS = 4;
    private static final int ALL_RINGS = -1;

    private final State now;
    private final Lining plan;
    private final History history;
    private final LogText text;
    private int latestRefusal;

    public LiningLog() {
        now = new State();
        plan = new Lining();
        history = new History();
        text = new LogText();
        latestRefusal = NOT_REFUSED;
    }

    // ---- the lining

    public int begin(int rings, int sectors) {
        if (!within(rings, 1, MOST_RINGS) || !within(sectors, FEWEST_SECTORS, MOST_SECTORS)) {
            return INVALID_ARGUMENT;
        }
        history.record(now);
        now.startAnew(rings, sectors);
        return now.lining.spots;
    }

    public int rate(int ring, int value) {
        Lining lining = now.lining;
        if (!lining.hasRing(ring) || !within(value, 0, HIGHEST_RATE)) {
            return INVALID_ARGUMENT;
        }
        history.record(now);
        int previous = lining.rates[ring];
        lining.rates[ring] = value;
        return previous;
    }

    public int set(int what, int value) {
        if (!within(what, 0, SETTINGS - 1)
                || !within(value, LOWEST_SETTING[what], HIGHEST_SETTING[what])) {
            return INVALID_ARGUMENT;
        }
        history.record(now);
        int[] settings = now.lining.settings;
        int previous = settings[what];
        settings[what] = value;
        return previous;
    }

    public int heat(int temperature, int slag) {
        if (!isHeat(temperature, slag)) {
            return INVALID_ARGUMENT;
        }
        if (now.lining.over) {
            return NOT_POSSIBLE;
        }
        history.record(now);
        return now.lining.makeHeat(factorOf(temperature, slag));
    }

    public int gun(int spot, int amount) {
        Lining lining = now.lining;
        if (!lining.hasSpot(spot) || !isAmount(amount)) {
            return INVALID_ARGUMENT;
        }
        int refusal = lining.gunningRefusal(spot, amount);
        if (refusal == REFUSED_STOCK) {
            return LIMIT_REACHED;
        }
        if (refusal != NOT_REFUSED) {
            return NOT_POSSIBLE;
        }
        history.record(now);
        return lining.putOn(spot, amount);
    }

    public int reline(int ring) {
        if (ring != ALL_RINGS && !now.lining.hasRing(ring)) {
            return INVALID_ARGUMENT;
        }
        history.record(now);
        return ring == ALL_RINGS ? now.lining.layAllRings() : now.lining.layRing(ring);
    }

    public int scan() {
        history.record(now);
        Scan latest = now.takeScan();
        return latest.hotSpots(now.lining);
    }

    public int undo() {
        if (history.size == 0) {
            return NOT_POSSIBLE;
        }
        history.restoreLatest(now);
        return history.size;
    }

    public int count(int what) {
        Lining lining = now.lining;
        if (within(what, FIRST_SETTING_COUNT, FIRST_SETTING_COUNT + SETTINGS - 1)) {
            return lining.settings[what - FIRST_SETTING_COUNT];
        }
        switch (what) {
            case 0:
                return lining.rings;
            case 1:
                return lining.sectors;
            case 2:
                return lining.heats;
            case 3:
                return lining.campaignHeats;
            case 4:
                return lining.campaign;
            case 5:
                return lining.over ? 1 : 0;
            case 6:
                return now.scanCount;
            case 7:
                return history.size;
            case 8:
                return text.length;
            case 9:
                return lining.layeredSpots();
            case 10:
                return lining.leastThickness();
            default:
                return INVALID_ARGUMENT;
        }
    }

    public int spot(int spot, int what) {
        Lining lining = now.lining;
        if (!lining.hasSpot(spot)) {
            return INVALID_ARGUMENT;
        }
        switch (what) {
            case 0:
                return lining.brick[spot];
            case 1:
                return lining.layer[spot];
            case 2:
                return lining.thickness(spot);
            case 3:
                return lining.shellTemperature(spot);
            case 4:
                return lining.standingOut(spot);
            case 5:
                return lining.neighboursOf(spot);
            case 6:
                return lining.ringOf(spot);
            case 7:
                return lining.rates[lining.ringOf(spot)];
            default:
                return INVALID_ARGUMENT;
        }
    }

    public int neighbour(int spot, int index) {
        if (!now.lining.hasSpot(spot) || index < 0) {
            return INVALID_ARGUMENT;
        }
        if (index >= now.lining.neighboursOf(spot)) {
            return NOT_FOUND;
        }
        return now.lining.neighbourAt(spot, index);
    }

    public int account(int what) {
        if (what == LEFT) {
            return now.lining.sumOfThicknesses();
        }
        return within(what, LAID, BROKEN_OUT) ? now.lining.accounts[what] : INVALID_ARGUMENT;
    }

    // ---- scans

    public int scanned(int scan, int spot, int what) {
        Lining lining = now.lining;
        if (!now.hasScan(scan) || !lining.hasSpot(spot)) {
            return INVALID_ARGUMENT;
        }
        Scan asked = now.scans[scan];
        switch (what) {
            case 0:
                return asked.temperatures[spot];
            case 1:
                return asked.thicknesses[spot];
            case 2:
                return asked.isHot(spot, lining) ? 1 : 0;
            case 3:
                return asked.isPeak(spot, lining) ? 1 : 0;
            case 4:
                return asked.heats;
            default:
                return INVALID_ARGUMENT;
        }
    }

    public int peaks(int scan) {
        if (!now.hasScan(scan)) {
            return INVALID_ARGUMENT;
        }
        return now.scans[scan].peakSpots(now.lining);
    }

    public int trend(int spot) {
        if (!now.lining.hasSpot(spot)) {
            return INVALID_ARGUMENT;
        }
        return now.trendIsKnown() ? now.trendOf(spot) : NOT_FOUND;
    }

    public int heatsByTrend(int spot) {
        Lining lining = now.lining;
        if (!lining.hasSpot(spot)) {
            return INVALID_ARGUMENT;
        }
        if (!now.trendIsKnown()) {
            return NOT_FOUND;
        }
        int trend = now.trendOf(spot);
        int spare = lining.thickness(spot) - lining.settings[LIMIT];
        if (trend <= 0 || spare < 0) {
            return NOT_FOUND;
        }
        return 100 * spare / trend;
    }

    // ---- plans; nothing changes

    public int heatsLeft(int temperature, int slag) {
        if (!isHeat(temperature, slag)) {
            return INVALID_ARGUMENT;
        }
        plan.copyFrom(now.lining);
        int heats = plan.heatsUntilOver(factorOf(temperature, slag));
        return heats > MOST_PLANNED_HEATS ? NOT_FOUND : heats;
    }

    public int firstThrough(int temperature, int slag) {
        if (!isHeat(temperature, slag)) {
            return INVALID_ARGUMENT;
        }
        if (now.lining.over) {
            return NOT_POSSIBLE;
        }
        plan.copyFrom(now.lining);
        int heats = plan.heatsUntilOver(factorOf(temperature, slag));
        return heats > MOST_PLANNED_HEATS ? NOT_FOUND : plan.firstBelowLimit();
    }

    public int bestSpot(int amount, int temperature, int slag) {
        if (!isAmount(amount) || !isHeat(temperature, slag)) {
            return INVALID_ARGUMENT;
        }
        Lining lining = now.lining;
        int best = NOT_POSSIBLE;
        int mostHeats = -1;
        // A spot that reaches the highest count cannot be beaten by a later one.
        for (int spot = 0; spot < lining.spots && mostHeats <= MOST_PLANNED_HEATS; spot++) {
            if (lining.gunningRefusal(spot, amount) == NOT_REFUSED) {
                plan.copyFrom(lining);
                plan.putOn(spot, amount);
                int heats = plan.heatsUntilOver(factorOf(temperature, slag));
                if (heats > mostHeats) {
                    mostHeats = heats;
                    best = spot;
                }
            }
        }
        return best;
    }

    public int wear(int spot, int temperature, int slag) {
        if (!now.lining.hasSpot(spot) || !isHeat(temperature, slag)) {
            return INVALID_ARGUMENT;
        }
        return now.lining.wearNow(spot, factorOf(temperature, slag));
    }

    // ---- texts

    public int type(int character) {
        if (!within(character, 32, 126)) {
            return INVALID_ARGUMENT;
        }
        if (text.length >= MOST_SIGNS) {
            return LIMIT_REACHED;
        }
        text.append((char) character);
        return text.length;
    }

    public int clearText() {
        int length = text.length;
        text.length = 0;
        return length;
    }

    public int fault() {
        return text.firstFault(now.lining);
    }

    public int run() {
        if (text.firstFault(now.lining) != NOT_FOUND) {
            return NOT_POSSIBLE;
        }
        history.record(now);
        int carried = 0;
        int from = 0;
        for (int lines = 0; lines < MOST_SIGNS && from < text.length; lines++) {
            text.readLine(from);
            int refusal = carryOutLine();
            if (refusal != NOT_REFUSED) {
                latestRefusal = refusal;
                return carried;
            }
            carried++;
            from = text.next;
        }
        return carried;
    }

    public int reason() {
        return latestRefusal;
    }

    /** Carries out the line that the text has read last, or tells why it is refused. */
    private int carryOutLine() {
        Lining lining = now.lining;
        switch (text.kind) {
            case 'h':
                if (lining.over) {
                    return REFUSED_OVER;
                }
                lining.makeHeat(factorOf(text.first, text.second));
                return NOT_REFUSED;
            case 'g':
                int refusal = lining.gunningRefusal(text.first, text.second);
                if (refusal == NOT_REFUSED) {
                    lining.putOn(text.first, text.second);
                }
                return refusal;
            case 'r':
                lining.layRing(text.first);
                return NOT_REFUSED;
            default:
                now.takeScan();
                return NOT_REFUSED;
        }
    }

    private static boolean within(int value, int lowest, int highest) {
        return value >= lowest && value <= highest;
    }

    private static boolean isHeat(int temperature, int slag) {
        return within(temperature, COOLEST, HOTTEST) && within(slag, 0, HIGHEST_SLAG);
    }

    private static boolean isAmount(int amount) {
        return within(amount, 1, MOST_AMOUNT);
    }

    private static int factorOf(int temperature, int slag) {
        // Below 1600 the first quotient is negative, and "/" would round it up.
        return 100 + Math.floorDiv(temperature - 1600, 4) + slag / 2;
    }

    /** The bricks with their settings, heats and accounts: all that a plan needs of a state. */
    private static final class Lining {
        // begin lets in none but 1 to 6 rings of 3 to 10 sectors, so the rows are long enough.
        private int rings;
        private int sectors;
        private int spots;
        private final int[] brick = new int[MOST_SPOTS];
        private final int[] layer = new int[MOST_SPOTS];
        private final int[] rates = new int[MOST_RINGS];
        // Of these, the standing out and the heats for each rest divide: set refuses less than 1.
        private final int[] settings = new int[SETTINGS];
        private final int[] accounts = new int[KEPT_ACCOUNTS];
        private int heats;
        private int campaignHeats;
        private int campaign;
        private boolean over;
        // All spots wear by the thicknesses ahead of a heat, so a heat keeps them here.
        private final int[] ahead = new int[MOST_SPOTS];

        private Lining() {
            lay(FIRST_RINGS, FIRST_SECTORS);
        }

        private void lay(int newRings, int newSectors) {
            rings = newRings;
            sectors = newSectors;
            spots = newRings * newSectors;
            for (int spot = 0; spot < spots; spot++) {
                brick[spot] = NEW_BRICK;
                layer[spot] = 0;
            }
            for (int ring = 0; ring < MOST_RINGS; ring++) {
                rates[ring] = FIRST_RATE;
            }
            for (int what = 0; what < SETTINGS; what++) {
                settings[what] = FIRST_SETTING[what];
            }
            accounts[LAID] = spots * NEW_BRICK;
            accounts[GUNNED] = 0;
            accounts[WORN] = 0;
            accounts[BROKEN_OUT] = 0;
            heats = 0;
            campaignHeats = 0;
            campaign = 1;
            over = false;
        }

        private void copyFrom(Lining other) {
            rings = other.rings;
            sectors = other.sectors;
            spots = other.spots;
            System.arraycopy(other.brick, 0, brick, 0, MOST_SPOTS);
            System.arraycopy(other.layer, 0, layer, 0, MOST_SPOTS);
            System.arraycopy(other.rates, 0, rates, 0, MOST_RINGS);
            System.arraycopy(other.settings, 0, settings, 0, SETTINGS);
            System.arraycopy(other.accounts, 0, accounts, 0, KEPT_ACCOUNTS);
            heats = other.heats;
            campaignHeats = other.campaignHeats;
            campaign = other.campaign;
            over = other.over;
        }

        private boolean hasRing(int ring) {
            return within(ring, 0, rings - 1);
        }

        private boolean hasSpot(int number) {
            return within(number, 0, spots - 1);
        }

        private int ringOf(int number) {
            return number / sectors;
        }

        private int neighboursOf(int number) {
            int before = number >= sectors ? 1 : 0;
            int behind = number + sectors < spots ? 1 : 0;
            return before + 2 + behind;
        }

        /** The neighbours in the order of their numbers: those of the own ring lie between the others. */
        private int neighbourAt(int number, int index) {
            int inOwnRing = number >= sectors ? index - 1 : index;
            if (inOwnRing < 0) {
                return number - sectors;
            }
            if (inOwnRing == 0) {
                return Math.min(placeBefore(number), placeBehind(number));
            }
            if (inOwnRing == 1) {
                return Math.max(placeBefore(number), placeBehind(number));
            }
            return number + sectors;
        }

        private int placeBefore(int number) {
            return number % sectors == 0 ? number + sectors - 1 : number - 1;
        }

        private int placeBehind(int number) {
            return (number + 1) % sectors == 0 ? number + 1 - sectors : number + 1;
        }

        private int thickness(int number) {
            return brick[number] + layer[number];
        }

        private int leastThickness() {
            int least = thickness(0);
            for (int number = 1; number < spots; number++) {
                least = Math.min(least, thickness(number));
            }
            return least;
        }

        private int sumOfThicknesses() {
            int sum = 0;
            for (int number = 0; number < spots; number++) {
                sum += thickness(number);
            }
            return sum;
        }

        private int layeredSpots() {
            int layered = 0;
            for (int number = 0; number < spots; number++) {
                if (layer[number] > 0) {
                    layered++;
                }
            }
            return layered;
        }

        private int firstBelowLimit() {
            for (int number = 0; number < spots; number++) {
                if (thickness(number) < settings[LIMIT]) {
                    return number;
                }
            }
            return NOT_FOUND;
        }

        private int shellTemperature(int number) {
            return 40 + settings[SHELL_FACTOR] / (thickness(number) + 100);
        }

        private void keepThicknesses() {
            for (int number = 0; number < spots; number++) {
                ahead[number] = thickness(number);
            }
        }

        private int standingOut(int number) {
            keepThicknesses();
            return standingOutAhead(number);
        }

        private int standingOutAhead(int number) {
            int least = Math.min(ahead[placeBefore(number)], ahead[placeBehind(number)]);
            if (number >= sectors) {
                least = Math.min(least, ahead[number - sectors]);
            }
            if (number + sectors < spots) {
                least = Math.min(least, ahead[number + sectors]);
            }
            return ahead[number] - least;
        }

        private int wearNow(int number, int factor) {
            keepThicknesses();
            return wearAhead(number, factor);
        }

        private int wearAhead(int number, int factor) {
            int even = rates[ringOf(number)] * factor / 100;
            int difference = standingOutAhead(number);
            int counting = settings[STANDING_OUT];
            return difference >= counting ? even + difference / counting : even;
        }

        /** Makes a heat and answers what all spots lost by wear. */
        private int makeHeat(int factor) {
            keepThicknesses();
            int lost = 0;
            for (int number = 0; number < spots; number++) {
                lost += takeWear(number, wearAhead(number, factor));
            }
            accounts[WORN] += lost;
            heats++;
            campaignHeats++;
            if (campaignHeats % settings[HEATS_FOR_REST] == 0) {
                rest();
            }
            over = firstBelowLimit() != NOT_FOUND;
            return lost;
        }

        private int takeWear(int number, int wear) {
            int layered = layer[number];
            if (layered >= 2 * wear) {
                layer[number] = layered - 2 * wear;
                return 2 * wear;
            }
            int fromBrick = Math.min(wear - layered / 2, brick[number]);
            layer[number] = 0;
            brick[number] -= fromBrick;
            return layered + fromBrick;
        }

        private void rest() {
            for (int number = 0; number < spots; number++) {
                int falling = layer[number] / 2;
                layer[number] -= falling;
                accounts[BROKEN_OUT] += falling;
            }
        }

        private int staying(int number, int amount) {
            boolean hot = shellTemperature(number) >= settings[HOT_THRESHOLD];
            return hot ? amount * 4 / 5 : amount * 3 / 5;
        }

        private int gunningRefusal(int number, int amount) {
            if (over) {
                return REFUSED_OVER;
            }
            if (thickness(number) + staying(number, amount) > MOST_THICKNESS) {
                return REFUSED_TOO_THICK;
            }
            return settings[STOCK] < amount ? REFUSED_STOCK : NOT_REFUSED;
        }

        private int putOn(int number, int amount) {
            int stays = staying(number, amount);
            layer[number] += stays;
            settings[STOCK] -= amount;
            accounts[GUNNED] += stays;
            return stays;
        }

        private int layRing(int ring) {
            int brokenOut = 0;
            int end = (ring + 1) * sectors;
            for (int number = ring * sectors; number < end; number++) {
                brokenOut += thickness(number);
                brick[number] = NEW_BRICK;
                layer[number] = 0;
            }
            accounts[BROKEN_OUT] += brokenOut;
            accounts[LAID] += sectors * NEW_BRICK;
            return brokenOut;
        }

        private int layAllRings() {
            int brokenOut = 0;
            for (int ring = 0; ring < rings; ring++) {
                brokenOut += layRing(ring);
            }
            campaign++;
            campaignHeats = 0;
            over = false;
            return brokenOut;
        }

        /** Makes heats until the campaign is over; one more than the most planned if it is not. */
        private int heatsUntilOver(int factor) {
            for (int made = 0; made < MOST_PLANNED_HEATS; made++) {
                if (over) {
                    return made;
                }
                makeHeat(factor);
            }
            return over ? MOST_PLANNED_HEATS : MOST_PLANNED_HEATS + 1;
        }
    }

    /** The shell as a scan found it. What is hot is asked of the lining: its threshold may change. */
    private static final class Scan {
        private final int[] temperatures = new int[MOST_SPOTS];
        private final int[] thicknesses = new int[MOST_SPOTS];
        private int heats;

        private void take(Lining lining) {
            for (int number = 0; number < lining.spots; number++) {
                temperatures[number] = lining.shellTemperature(number);
                thicknesses[number] = lining.thickness(number);
            }
            heats = lining.heats;
        }

        private void copyFrom(Scan other) {
            System.arraycopy(other.temperatures, 0, temperatures, 0, MOST_SPOTS);
            System.arraycopy(other.thicknesses, 0, thicknesses, 0, MOST_SPOTS);
            heats = other.heats;
        }

        private boolean isHot(int number, Lining lining) {
            return temperatures[number] >= lining.settings[HOT_THRESHOLD];
        }

        private boolean isPeak(int number, Lining lining) {
            if (!isHot(number, lining)) {
                return false;
            }
            int neighbours = lining.neighboursOf(number);
            for (int index = 0; index < neighbours; index++) {
                int other = lining.neighbourAt(number, index);
                int warmer = temperatures[other] - temperatures[number];
                if (warmer > 0 || (warmer == 0 && other < number)) {
                    return false;
                }
            }
            return true;
        }

        private int hotSpots(Lining lining) {
            int hot = 0;
            for (int number = 0; number < lining.spots; number++) {
                if (isHot(number, lining)) {
                    hot++;
                }
            }
            return hot;
        }

        private int peakSpots(Lining lining) {
            int found = 0;
            for (int number = 0; number < lining.spots; number++) {
                if (isPeak(number, lining)) {
                    found++;
                }
            }
            return found;
        }
    }

    /** All that a change may change and undo restores: the lining and its scans, the oldest first. */
    private static final class State {
        private final Lining lining = new Lining();
        private final Scan[] scans = new Scan[KEPT_SCANS];
        private int scanCount;

        private State() {
            for (int index = 0; index < KEPT_SCANS; index++) {
                scans[index] = new Scan();
            }
        }

        private void startAnew(int rings, int sectors) {
            lining.lay(rings, sectors);
            scanCount = 0;
        }

        private void copyFrom(State other) {
            lining.copyFrom(other.lining);
            scanCount = other.scanCount;
            for (int index = 0; index < scanCount; index++) {
                scans[index].copyFrom(other.scans[index]);
            }
        }

        private boolean hasScan(int number) {
            return within(number, 0, scanCount - 1);
        }

        private Scan takeScan() {
            if (scanCount == KEPT_SCANS) {
                dropOldestScan();
            }
            Scan latest = scans[scanCount];
            latest.take(lining);
            scanCount++;
            return latest;
        }

        /** The dropped scan goes behind the others, so that its rows are used again. */
        private void dropOldestScan() {
            Scan dropped = scans[0];
            for (int index = 1; index < KEPT_SCANS; index++) {
                scans[index - 1] = scans[index];
            }
            scans[KEPT_SCANS - 1] = dropped;
            scanCount--;
        }

        private int heatsBetweenLatestScans() {
            return scans[scanCount - 1].heats - scans[scanCount - 2].heats;
        }

        private boolean trendIsKnown() {
            return scanCount >= 2 && heatsBetweenLatestScans() != 0;
        }

        private int trendOf(int number) {
            int before = scans[scanCount - 2].thicknesses[number];
            int latest = scans[scanCount - 1].thicknesses[number];
            return Math.floorDiv((before - latest) * 100, heatsBetweenLatestScans());
        }
    }

    /** The latest states, in rows that are made once and go around. */
    private static final class History {
        private final State[] states = new State[KEPT_STATES];
        private int oldest;
        private int size;

        private History() {
            for (int index = 0; index < KEPT_STATES; index++) {
                states[index] = new State();
            }
        }

        private void record(State state) {
            if (size == KEPT_STATES) {
                oldest = (oldest + 1) % KEPT_STATES;
                size--;
            }
            states[(oldest + size) % KEPT_STATES].copyFrom(state);
            size++;
        }

        private void restoreLatest(State state) {
            size--;
            state.copyFrom(states[(oldest + size) % KEPT_STATES]);
        }
    }

    /** The typed text, and the line of it that was read last. */
    private static final class LogText {
        private final char[] signs = new char[MOST_SIGNS];
        private int length;
        private char kind;
        private int first;
        private int second;
        private int next;

        private void append(char sign) {
            signs[length] = sign;
            length++;
        }

        private boolean isAt(int position, char sign) {
            return position < length && signs[position] == sign;
        }

        private int firstFault(Lining lining) {
            int from = 0;
            for (int lines = 0; lines < MOST_SIGNS && from < length; lines++) {
                if (!readLine(from) || !isInRange(lining)) {
                    return from;
                }
                from = next;
            }
            return NOT_FOUND;
        }

        /** Reads the line that begins there; false if it is not of the form of a line. */
        private boolean readLine(int from) {
            kind = signs[from];
            next = from + 1;
            boolean formed;
            switch (kind) {
                case 'h':
                case 'g':
                    formed = readFirst() && readSign(',') && readSecond();
                    break;
                case 'r':
                    formed = readFirst();
                    break;
                case 's':
                    formed = true;
                    break;
                default:
                    formed = false;
                    break;
            }
            return formed && readSign(';');
        }

        private boolean readSign(char sign) {
            if (!isAt(next, sign)) {
                return false;
            }
            next++;
            return true;
        }

        private boolean readFirst() {
            int start = next;
            first = readDigits();
            return next > start;
        }

        private boolean readSecond() {
            int start = next;
            second = readDigits();
            return next > start;
        }

        /** A fifth digit is left standing: no comma or semicolon, it makes the line a fault. */
        private int readDigits() {
            int end = Math.min(length, next + MOST_DIGITS);
            int number = 0;
            while (next < end && signs[next] >= '0' && signs[next] <= '9') {
                number = number * 10 + (signs[next] - '0');
                next++;
            }
            return number;
        }

        private boolean isInRange(Lining lining) {
            switch (kind) {
                case 'h':
                    return isHeat(first, second);
                case 'g':
                    return lining.hasSpot(first) && isAmount(second);
                case 'r':
                    return lining.hasRing(first);
                default:
                    return true;
            }
        }
    }
}
