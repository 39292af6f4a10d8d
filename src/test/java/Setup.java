/** Brings ladders to the states that the edge tests stand on, by calls of the face alone. */
final class Setup {
    static final int LEAST = Integer.MIN_VALUE;
    static final int MOST = Integer.MAX_VALUE;
    private static final int MOST_ROUNDS = 150;

    private Setup() {
    }

    /** Lets water through one gate for one minute; answers the units. */
    static int let(LockStaircase x, int gate, int turns) {
        x.wind(gate, turns);
        int units = x.pass(1);
        x.wind(gate, 0);
        return units;
    }

    private static void windAll(LockStaircase x, int lowestGate, int highestGate, int turns) {
        for (int gate = lowestGate; gate <= highestGate; gate++) {
            x.wind(gate, turns);
        }
    }

    /** Fills the chambers from this one up to their tops, and the pound; those below stay as they are. */
    static void fill(LockStaircase x, int lowestChamber) {
        int highestGate = x.chambers();
        windAll(x, lowestChamber + 1, highestGate, 5);
        int rounds = 0;
        do {
            x.rain(999);
            rounds++;
        } while (x.pass(1) > 0 && rounds < MOST_ROUNDS);
        windAll(x, lowestChamber + 1, highestGate, 0);
    }

    /** Lets all water out of the chambers up to this one. */
    static void drain(LockStaircase x, int highestChamber) {
        windAll(x, 0, highestChamber, 5);
        x.pass(60);
        windAll(x, 0, highestChamber, 0);
    }

    /** Lets the water of a chamber down to another one; those between them and the lower one are empty. */
    static void carry(LockStaircase x, int from, int to) {
        windAll(x, to + 1, from, 5);
        x.pass(20);
        windAll(x, to + 1, from, 0);
    }

    /** All chambers at their tops, and the pound full. */
    static LockStaircase brimful(int chambers, int lift, int area) {
        LockStaircase x = new LockStaircase(chambers, lift, area);
        fill(x, 0);
        return x;
    }

    /** Nothing flows any more: all chambers are empty, and the pound stands at the floor of the highest one. */
    static void exhaust(LockStaircase x) {
        int highestGate = x.chambers();
        windAll(x, 0, highestGate, 5);
        int rounds = 0;
        while (x.pass(60) > 0 && rounds < MOST_ROUNDS) {
            rounds++;
        }
        windAll(x, 0, highestGate, 0);
    }

    /** A full pound, and no head at this gate. */
    static LockStaircase levelled(int chambers, int lift, int area, int gate) {
        LockStaircase x = brimful(chambers, lift, area);
        if (gate < chambers) {
            drain(x, Math.max(0, gate - 1));
        }
        if (gate > 0 && gate < chambers) {
            carry(x, gate, gate - 1);
        }
        return x;
    }

    /** A new ladder with this boat in chamber 0, and all gates shut. */
    static LockStaircase withBoatInChamber0(int chambers, int lift, int area, int length, int draught) {
        LockStaircase x = new LockStaircase(chambers, lift, area);
        x.addBoat(length, draught, false);
        x.open(0);
        x.move(0, true);
        x.shut(0);
        return x;
    }

    static void addBoats(LockStaircase x, int boats, int length, int draught, boolean above) {
        for (int boat = 0; boat < boats; boat++) {
            x.addBoat(length, draught, above);
        }
    }
}
