/**
 * A ladder of locks between a lower reach and an upper pound.
 *
 * This class looks at the arguments and throws; the ladder itself stands in the classes inside it.
 */
public final class LockStaircase {
    public static final int NONE = -1;
    public static final int CAN_OPEN = 0;
    public static final int IS_OPEN = 1;
    public static final int SLUICE_UP = 2;
    public static final int HAS_HEAD = 3;
    public static final int CAN_MOVE = 0;
    public static final int NO_WAY = 1;
    public static final int GATE_SHUT = 2;
    public static final int NO_ROOM = 3;
    public static final int TOO_SHALLOW = 4;
    public static final int LOW_POUND = 5;
    public static final int AT_GATE = 6;
    public static final int AT_CHAMBER = 7;

    private static final int MOST_CHAMBERS = 6;
    private static final int MOST_GATES = MOST_CHAMBERS + 1;
    private static final int SMALLEST_LIFT = 5;
    private static final int GREATEST_LIFT = 40;
    private static final int GREATEST_AREA = 50;
    private static final int FULL_DEPTH = 20;
    private static final int MOST_RAIN = 999;
    private static final int MOST_TURNS = 5;
    private static final int UNITS_A_TURN = 4;
    private static final int UNITS_A_MINUTE = MOST_TURNS * UNITS_A_TURN;
    private static final int MOST_MINUTES = 60;
    private static final int MOST_BOATS = 10;
    private static final int SHORTEST_BOAT = 5;
    private static final int LONGEST_BOAT = 60;
    private static final int GREATEST_DRAUGHT = 19;
    private static final int CHAMBER_LENGTH = 60;
    // The document tells no bound for the rounds of levelling. Each lets a unit flow, so 100 would be enough.
    private static final int MOST_ROUNDS = 100000;

    private final Ladder ladder;
    // Forecasts take the boat on this second ladder; it is made once, since no call is to make objects.
    private final Ladder trial;

    public LockStaircase(int chambers, int lift, int area) {
        ladder = new Ladder(chambers, lift, area);
        trial = new Ladder(chambers, lift, area);
    }

    public int chambers() {
        return ladder.water.count();
    }

    public int levelOf(int chamber) throws IndexOutOfBoundsException {
        needChamber(chamber);
        return ladder.water.levelAt(chamber);
    }

    public int poundLevel() {
        return ladder.water.levelAt(ladder.water.count());
    }

    public int poundDepth() {
        return ladder.water.depth();
    }

    public int poundWater() {
        return ladder.water.pound;
    }

    public int rain(int units) throws IllegalArgumentException, IllegalStateException {
        if (units < 1 || units > MOST_RAIN) {
            throw new IllegalArgumentException("units outside 1 to 999");
        }
        if (ladder.gates.isOpenAt(ladder.water.count())) {
            throw new IllegalStateException("the highest gate is open");
        }
        return ladder.water.pour(units);
    }

    public int headAt(int gate) throws IndexOutOfBoundsException {
        needGate(gate);
        return ladder.water.headOver(gate);
    }

    public boolean isOpen(int gate) throws IndexOutOfBoundsException {
        needGate(gate);
        return ladder.gates.isOpenAt(gate);
    }

    public int openObstacle(int gate) throws IndexOutOfBoundsException {
        needGate(gate);
        return ladder.openingObstacle(gate);
    }

    public int open(int gate) throws IndexOutOfBoundsException, IllegalStateException {
        needGate(gate);
        if (ladder.openingObstacle(gate) != CAN_OPEN) {
            throw new IllegalStateException("the gate cannot be opened");
        }
        ladder.gates.setOpen(gate, true);
        return ladder.gates.countOpen();
    }

    public boolean shut(int gate) throws IndexOutOfBoundsException {
        needGate(gate);
        boolean wasOpen = ladder.gates.isOpenAt(gate);
        ladder.gates.setOpen(gate, false);
        return wasOpen;
    }

    public int turnsOf(int gate) throws IndexOutOfBoundsException {
        needGate(gate);
        return ladder.gates.turnsAt(gate);
    }

    public int wind(int gate, int turns)
            throws IndexOutOfBoundsException, IllegalArgumentException, IllegalStateException {
        needGate(gate);
        if (turns < 0 || turns > MOST_TURNS) {
            throw new IllegalArgumentException("turns outside 0 to 5");
        }
        if (turns > 0 && ladder.gates.isOpenBeside(gate)) {
            throw new IllegalStateException("a gate beside the sluice is open");
        }
        int before = ladder.gates.turnsAt(gate);
        ladder.gates.setTurns(gate, turns);
        return before;
    }

    public int pass(int minutes) throws IllegalArgumentException {
        if (minutes < 1 || minutes > MOST_MINUTES) {
            throw new IllegalArgumentException("minutes outside 1 to 60");
        }
        int units = 0;
        for (int minute = 0; minute < minutes; minute++) {
            units += ladder.passMinute();
        }
        return units;
    }

    public int clock() {
        return ladder.water.minutes;
    }

    public int addBoat(int length, int draught, boolean above)
            throws IllegalArgumentException, IllegalStateException {
        if (length < SHORTEST_BOAT || length > LONGEST_BOAT) {
            throw new IllegalArgumentException("length outside 5 to 60");
        }
        if (draught < 1 || draught > GREATEST_DRAUGHT) {
            throw new IllegalArgumentException("draught outside 1 to 19");
        }
        if (ladder.fleet.count >= MOST_BOATS) {
            throw new IllegalStateException("there are 10 boats");
        }
        if (above && ladder.water.depth() < draught) {
            throw new IllegalStateException("the pound is too shallow");
        }
        return ladder.fleet.add(length, draught, above ? ladder.poundPlace() : 0);
    }

    public int boatCount() {
        return ladder.fleet.count;
    }

    public int placeOf(int boat) throws IndexOutOfBoundsException {
        needBoat(boat);
        return ladder.fleet.placeAt(boat);
    }

    public int boatsAt(int place) throws IndexOutOfBoundsException {
        if (place < 0 || place > ladder.poundPlace()) {
            throw new IndexOutOfBoundsException("no such place");
        }
        return ladder.fleet.boatsIn(place);
    }

    public int freeLength(int chamber) throws IndexOutOfBoundsException {
        needChamber(chamber);
        return CHAMBER_LENGTH - ladder.fleet.lengthIn(chamber + 1);
    }

    public int moveObstacle(int boat, boolean up) throws IndexOutOfBoundsException {
        needBoat(boat);
        return ladder.movingObstacle(boat, up);
    }

    public int move(int boat, boolean up) throws IndexOutOfBoundsException, IllegalStateException {
        needBoat(boat);
        if (ladder.movingObstacle(boat, up) != CAN_MOVE) {
            throw new IllegalStateException("the boat cannot move");
        }
        ladder.fleet.put(boat, ladder.nextPlace(boat, up));
        return ladder.fleet.placeAt(boat);
    }

    public int take(int boat, boolean up) throws IndexOutOfBoundsException {
        needBoat(boat);
        ladder.bring(boat, up);
        return ladder.fleet.placeAt(boat);
    }

    public int reportLength() {
        return ladder.report.size();
    }

    public int reportKind(int entry) {
        return ladder.report.kindOf(entry);
    }

    public int reportNumber(int entry) {
        return ladder.report.numberOf(entry);
    }

    public int minutesFor(int boat, boolean up) throws IndexOutOfBoundsException {
        needBoat(boat);
        trial.copyWaterAndBoats(ladder);
        trial.bring(boat, up);
        return trial.report.size() > 0 ? NONE : trial.water.minutes - ladder.water.minutes;
    }

    public int waterFor(int boat, boolean up) throws IndexOutOfBoundsException {
        needBoat(boat);
        trial.copyWaterAndBoats(ladder);
        trial.bring(boat, up);
        return ladder.water.pound - trial.water.pound;
    }

    public int lostWater() {
        return ladder.water.lost;
    }

    public double meanLevel() {
        int sum = 0;
        int count = ladder.water.count();
        for (int chamber = 0; chamber < count; chamber++) {
            sum += ladder.water.levelAt(chamber);
        }
        return count < 1 ? 0.0 : (double) sum / (double) count;
    }

    public float poundPart() {
        int full = ladder.water.fullPound();
        return full < 1 ? 0.0f : (float) ladder.water.pound / (float) full;
    }

    public boolean isConsistent() {
        return ladder.gatesHold() && ladder.boatsFit() && ladder.water.isBalanced();
    }

    private void needChamber(int chamber) {
        if (chamber < 0 || chamber >= ladder.water.count()) {
            throw new IndexOutOfBoundsException("no such chamber");
        }
    }

    private void needGate(int gate) {
        if (gate < 0 || gate > ladder.water.count()) {
            throw new IndexOutOfBoundsException("no such gate");
        }
    }

    private void needBoat(int boat) {
        if (boat < 0 || boat >= ladder.fleet.count) {
            throw new IndexOutOfBoundsException("no such boat");
        }
    }

    private static int within(int number, int least, int most) {
        return Math.max(least, Math.min(most, number));
    }

    /**
     * The water and the clock by which it flows. Where a number stands for any water, -1 is the lower reach,
     * and the number after that of the highest chamber is the pound: so the gate G always lies between G - 1 and G.
     */
    private static final class Water {
        private final int lift;
        private final int area;
        private final int[] levels;
        // The level at which the depth of the pound is 0.
        private final int bed;
        private int pound;
        private int lost;
        private int gained;
        private int minutes;

        Water(int chambers, int lift, int area) {
            this.lift = within(lift, SMALLEST_LIFT, GREATEST_LIFT);
            this.area = within(area, 1, GREATEST_AREA);
            levels = new int[within(chambers, 1, MOST_CHAMBERS)];
            for (int chamber = 0; chamber < levels.length; chamber++) {
                levels[chamber] = chamber * this.lift;
            }
            bed = levels.length * this.lift - FULL_DEPTH;
            pound = FULL_DEPTH * this.area;
        }

        void copyFrom(Water other) {
            System.arraycopy(other.levels, 0, levels, 0, Math.min(other.levels.length, levels.length));
            pound = other.pound;
            lost = other.lost;
            gained = other.gained;
            minutes = other.minutes;
        }

        int count() {
            return levels.length;
        }

        int floorOf(int chamber) {
            return chamber * lift;
        }

        int topOf(int chamber) {
            return (chamber + 1) * lift;
        }

        int fullPound() {
            return FULL_DEPTH * area;
        }

        int levelAt(int number) {
            if (number < 0) {
                return 0;
            }
            if (number < levels.length) {
                return levels[number];
            }
            return area < 1 ? bed : bed + Math.floorDiv(pound, area);
        }

        int depth() {
            return levelAt(levels.length) - bed;
        }

        int headOver(int gate) {
            return levelAt(gate) - levelAt(gate - 1);
        }

        int pour(int units) {
            int spilled = Math.max(0, pound + units - fullPound());
            pound += units - spilled;
            gained += units - spilled;
            return spilled;
        }

        int flow(int gate, int most) {
            for (int units = 0; units < most; units++) {
                boolean flows = gate < levels.length
                        ? levelAt(gate) > floorOf(gate) && (gate == 0 || levelAt(gate - 1) < topOf(gate - 1))
                        : levelAt(gate) > levelAt(gate - 1);
                if (!flows) {
                    return units;
                }
                change(gate, -1);
                change(gate - 1, 1);
            }
            return most;
        }

        private void change(int number, int units) {
            if (number < 0) {
                lost += units;
            } else if (number < levels.length) {
                levels[number] += units;
            } else {
                pound += units;
            }
        }

        private void runSluice(int gate, int units) {
            int left = units;
            boolean failed = false;
            for (int minute = 0; minute < units && left > 0 && !failed; minute++) {
                int asked = Math.min(left, UNITS_A_MINUTE);
                int flowed = flow(gate, asked);
                left -= flowed;
                failed = flowed < asked;
                minutes++;
            }
        }

        boolean levelLowerGate(int gate) {
            lower(this, gate, floorOf(gate));
            return gate == 0 || raise(this, gate - 1, topOf(gate - 1));
        }

        boolean levelHighestGate() {
            int gate = levels.length;
            for (int round = 0; round < MOST_ROUNDS && headOver(gate) != 0; round++) {
                if (levelAt(gate) < floorOf(gate - 1)) {
                    return false;
                }
                if (headOver(gate) > 0) {
                    // No unit flows any more as soon as the head is gone, so a minute never takes too many.
                    flow(gate, UNITS_A_MINUTE);
                    minutes++;
                } else {
                    lower(this, gate - 1, levelAt(gate));
                }
            }
            return headOver(gate) == 0;
        }

        // The number of the chamber falls from call to call, and the guard refuses what would go below the lowest.
        private static void lower(Water water, int chamber, int target) {
            if (water == null || chamber < 0 || chamber >= water.levels.length) {
                return;
            }
            for (int round = 0; round < MOST_ROUNDS && water.levelAt(chamber) > target; round++) {
                if (chamber > 0 && water.levelAt(chamber - 1) >= water.topOf(chamber - 1)) {
                    lower(water, chamber - 1, water.floorOf(chamber - 1));
                }
                water.runSluice(chamber, water.levelAt(chamber) - target);
            }
        }

        // The number of the chamber rises from call to call, and the guard refuses what would go above the highest.
        private static boolean raise(Water water, int chamber, int target) {
            if (water == null || chamber < 0 || chamber >= water.levels.length) {
                return false;
            }
            int missing = target - water.levelAt(chamber);
            if (missing <= 0) {
                return true;
            }
            int above = chamber + 1;
            if (above < water.levels.length && !raise(water, above, water.floorOf(above) + missing)) {
                return false;
            }
            water.runSluice(above, missing);
            return water.levelAt(chamber) >= target;
        }

        boolean isBalanced() {
            int held = pound + lost;
            for (int chamber = 0; chamber < levels.length; chamber++) {
                if (levels[chamber] < floorOf(chamber) || levels[chamber] > topOf(chamber)) {
                    return false;
                }
                held += levels[chamber] - floorOf(chamber);
            }
            return held == fullPound() + gained;
        }
    }

    private static final class Gates {
        private final boolean[] open = new boolean[MOST_GATES];
        private final int[] turns = new int[MOST_GATES];

        boolean isOpenAt(int gate) {
            return gate >= 0 && gate < open.length && open[gate];
        }

        int turnsAt(int gate) {
            return gate >= 0 && gate < turns.length ? turns[gate] : 0;
        }

        boolean isOpenBeside(int gate) {
            return isOpenAt(gate - 1) || isOpenAt(gate) || isOpenAt(gate + 1);
        }

        boolean isSluiceUpBeside(int gate) {
            return turnsAt(gate - 1) > 0 || turnsAt(gate) > 0 || turnsAt(gate + 1) > 0;
        }

        void setOpen(int gate, boolean wide) {
            if (gate >= 0 && gate < open.length) {
                open[gate] = wide;
            }
        }

        void setTurns(int gate, int number) {
            if (gate >= 0 && gate < turns.length) {
                turns[gate] = number;
            }
        }

        int countOpen() {
            int count = 0;
            for (int gate = 0; gate < open.length; gate++) {
                if (open[gate]) {
                    count++;
                }
            }
            return count;
        }

        void closeAll() {
            for (int gate = 0; gate < MOST_GATES; gate++) {
                setOpen(gate, false);
                setTurns(gate, 0);
            }
        }
    }

    private static final class Fleet {
        private final int[] lengths = new int[MOST_BOATS];
        private final int[] draughts = new int[MOST_BOATS];
        private final int[] places = new int[MOST_BOATS];
        private int count;

        void copyFrom(Fleet other) {
            System.arraycopy(other.lengths, 0, lengths, 0, MOST_BOATS);
            System.arraycopy(other.draughts, 0, draughts, 0, MOST_BOATS);
            System.arraycopy(other.places, 0, places, 0, MOST_BOATS);
            count = other.count;
        }

        int add(int length, int draught, int place) {
            if (count < 0 || count >= MOST_BOATS) {
                return NONE;
            }
            lengths[count] = length;
            draughts[count] = draught;
            places[count] = place;
            count++;
            return count - 1;
        }

        int lengthAt(int boat) {
            return boat >= 0 && boat < lengths.length ? lengths[boat] : 0;
        }

        int draughtAt(int boat) {
            return boat >= 0 && boat < draughts.length ? draughts[boat] : 0;
        }

        int placeAt(int boat) {
            return boat >= 0 && boat < places.length ? places[boat] : 0;
        }

        void put(int boat, int place) {
            if (boat >= 0 && boat < places.length) {
                places[boat] = place;
            }
        }

        int boatsIn(int place) {
            int boats = 0;
            for (int boat = 0; boat < count; boat++) {
                if (placeAt(boat) == place) {
                    boats++;
                }
            }
            return boats;
        }

        int lengthIn(int place) {
            int length = 0;
            for (int boat = 0; boat < count; boat++) {
                if (placeAt(boat) == place) {
                    length += lengthAt(boat);
                }
            }
            return length;
        }
    }

    /** Why the latest taking failed: at a gate, for want of some chambers one above the other, for a reason. */
    private static final class Report {
        private int gate = NONE;
        private int lowestChamber = NONE;
        private int failedChambers;
        private int reason = NONE;

        void clear() {
            reason = NONE;
        }

        void fail(int atGate, int failed, int why) {
            gate = atGate;
            lowestChamber = atGate - 1;
            failedChambers = failed;
            reason = why;
        }

        int size() {
            return reason == NONE ? 0 : failedChambers + 2;
        }

        int kindOf(int entry) {
            if (entry < 0 || entry >= size()) {
                return NONE;
            }
            if (entry == 0) {
                return AT_GATE;
            }
            return entry <= failedChambers ? AT_CHAMBER : reason;
        }

        int numberOf(int entry) {
            int kind = kindOf(entry);
            if (kind == AT_GATE) {
                return gate;
            }
            return kind == AT_CHAMBER ? lowestChamber + entry - 1 : NONE;
        }
    }

    private static final class Ladder {
        private final Water water;
        private final Gates gates = new Gates();
        private final Fleet fleet = new Fleet();
        private final Report report = new Report();

        Ladder(int chambers, int lift, int area) {
            water = new Water(chambers, lift, area);
        }

        // A taking begins with its own report, gates and sluices, so a forecast needs no more than these two.
        void copyWaterAndBoats(Ladder other) {
            water.copyFrom(other.water);
            fleet.copyFrom(other.fleet);
        }

        int poundPlace() {
            return water.count() + 1;
        }

        int nextPlace(int boat, boolean up) {
            return fleet.placeAt(boat) + (up ? 1 : -1);
        }

        int openingObstacle(int gate) {
            if (gates.isOpenAt(gate)) {
                return IS_OPEN;
            }
            if (gates.isSluiceUpBeside(gate)) {
                return SLUICE_UP;
            }
            return water.headOver(gate) != 0 ? HAS_HEAD : CAN_OPEN;
        }

        int movingObstacle(int boat, boolean up) {
            int place = nextPlace(boat, up);
            if (place < 0 || place > poundPlace()) {
                return NO_WAY;
            }
            return gates.isOpenAt(gateTo(boat, place)) ? obstacleIn(place, boat) : GATE_SHUT;
        }

        private int gateTo(int boat, int place) {
            return Math.min(fleet.placeAt(boat), place);
        }

        private int obstacleIn(int place, int boat) {
            if (place == poundPlace()) {
                return water.depth() < fleet.draughtAt(boat) ? TOO_SHALLOW : CAN_MOVE;
            }
            boolean fits = place == 0 || fleet.lengthIn(place) + fleet.lengthAt(boat) <= CHAMBER_LENGTH;
            return fits ? CAN_MOVE : NO_ROOM;
        }

        int passMinute() {
            water.minutes++;
            int units = 0;
            for (int gate = 0; gate <= water.count(); gate++) {
                units += water.flow(gate, UNITS_A_TURN * gates.turnsAt(gate));
            }
            return units;
        }

        // Each gate would be opened and shut again before anybody can look, so both are left out here.
        void bring(int boat, boolean up) {
            report.clear();
            gates.closeAll();
            int end = up ? poundPlace() : 0;
            for (int step = 0; step < MOST_GATES && fleet.placeAt(boat) != end; step++) {
                int place = nextPlace(boat, up);
                int gate = gateTo(boat, place);
                boolean highest = gate == water.count();
                if (!(highest ? water.levelHighestGate() : water.levelLowerGate(gate))) {
                    // A chamber fails only because of the one above it, so all from below the gate to the highest did.
                    report.fail(gate, highest ? 0 : water.count() - gate + 1, LOW_POUND);
                    return;
                }
                int obstacle = obstacleIn(place, boat);
                if (obstacle != CAN_MOVE) {
                    report.fail(gate, 0, obstacle);
                    return;
                }
                fleet.put(boat, place);
            }
        }

        boolean gatesHold() {
            for (int gate = 0; gate <= water.count(); gate++) {
                if (gates.isOpenAt(gate) && (water.headOver(gate) != 0 || gates.isSluiceUpBeside(gate))) {
                    return false;
                }
            }
            return true;
        }

        boolean boatsFit() {
            for (int place = 1; place < poundPlace(); place++) {
                if (fleet.lengthIn(place) > CHAMBER_LENGTH) {
                    return false;
                }
            }
            return true;
        }
    }
}
