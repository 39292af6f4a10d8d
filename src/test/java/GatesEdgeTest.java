/**
 * The edges of gates and sluices: the section "Terms" on both, and promises 8 to 16.
 * Each row stands on an edge or one step beside it; the comments are the document's own words.
 */
public final class GatesEdgeTest {
    private static final int LEAST = Setup.LEAST;
    private static final int MOST = Setup.MOST;

    public static void main(String[] args) {
        headOfTheLowestGate8();
        headOfAMiddleGate8();
        headOfTheHighestGate8();
        sluicesBeside10();
        smallestObstacle10();
        openGates11();
        refusedOpening11();
        shutting12();
        turns13();
        turnsOfWind14();
        gatesBeside14();
        orderOfExceptions14();
        unitsAMinute15();
        unitsOfALowerGate15();
        levelOfThePoundForEachUnit15();
        waterWithinALevel15();
        ascendingOrder15();
        minutesOfPass15();
        unitsOfAllSluices15();
        clock16();
        Check.finish("GatesEdgeTest");
    }

    private static void gate(String what, LockStaircase x, int gate, int head, int obstacle) {
        Check.due(what + " head", x.headAt(gate), head);
        Check.due(what + " obstacle", x.openObstacle(gate), obstacle);
        if (obstacle == LockStaircase.CAN_OPEN) {
            Check.due(what + " opens", x.open(gate), 1);
            Check.due(what + " holds", x.isConsistent(), true);
            x.shut(gate);
        } else {
            Check.refusesState(what + " stays shut", x, () -> x.open(gate));
        }
    }

    /** "HAS_HEAD, its head is not 0": at 0 and one above it, for the head of gate 0 is never below 0 */
    private static void headOfTheLowestGate8() {
        LockStaircase x = Setup.brimful(1, 5, 50);
        gate("8 gate 0 at the top", x, 0, 5, LockStaircase.HAS_HEAD);
        Setup.let(x, 0, 1);
        gate("8 gate 0, one above", x, 0, 1, LockStaircase.HAS_HEAD);
        Setup.let(x, 0, 1);
        gate("8 gate 0, none", x, 0, 0, LockStaircase.CAN_OPEN);
    }

    /** Between chambers the head is 0 only if the upper one is at its floor and the lower one at its top. */
    private static void headOfAMiddleGate8() {
        LockStaircase x = Setup.levelled(3, 5, 50, 1);
        gate("8 gate 1, none", x, 1, 0, LockStaircase.CAN_OPEN);
        Setup.fill(x, 2);
        Check.due("8 four units for chamber 1", Setup.let(x, 2, 1), 4);
        gate("8 gate 1, four above", x, 1, 4, LockStaircase.HAS_HEAD);
        Check.due("8 all out of chamber 0", Setup.let(x, 0, 2), 5);
        Check.due("8 four units for chamber 0", Setup.let(x, 1, 2), 4);
        gate("8 gate 1, one below the top", x, 1, 1, LockStaircase.HAS_HEAD);
        Check.due("8 four units for chamber 1 again", Setup.let(x, 2, 1), 1);
        gate("8 gate 1, one above the floor too", x, 1, 2, LockStaircase.HAS_HEAD);
        Check.due("8 the last one", Setup.let(x, 1, 5), 1);
        gate("8 gate 1, none again", x, 1, 0, LockStaircase.CAN_OPEN);
        LockStaircase y = Setup.levelled(3, 5, 50, 2);
        gate("8 gate 2, none", y, 2, 0, LockStaircase.CAN_OPEN);
        gate("8 gate 1, the lift twice", new LockStaircase(3, 5, 50), 1, 5, LockStaircase.HAS_HEAD);
        Check.due("8 the greatest head", lowAndFull().headAt(1), 80);
    }

    /** Chamber 0 empty and chamber 1 full, with the greatest lift. */
    private static LockStaircase lowAndFull() {
        LockStaircase x = Setup.brimful(2, 40, 50);
        Setup.drain(x, 0);
        return x;
    }

    /** "it can be negative at the highest gate" */
    private static void headOfTheHighestGate8() {
        LockStaircase x = new LockStaircase(1, 40, 1);
        Setup.exhaust(x);
        gate("8 highest gate, none", x, 1, 0, LockStaircase.CAN_OPEN);
        x.rain(1);
        gate("8 highest gate, one above", x, 1, 1, LockStaircase.HAS_HEAD);
        Setup.let(x, 1, 1);
        gate("8 highest gate, one below", x, 1, -1, LockStaircase.HAS_HEAD);
        x.rain(1);
        gate("8 highest gate, none again", x, 1, 0, LockStaircase.CAN_OPEN);
        x.rain(39);
        gate("8 highest gate, the pound full", x, 1, 39, LockStaircase.HAS_HEAD);
    }

    /** "a sluice at this gate, at the next one below or at the next one above has more than 0 turns" */
    private static void sluicesBeside10() {
        for (int n = 1; n <= 6; n++) {
            LockStaircase x = new LockStaircase(n, 40, 50);
            for (int sluice = 0; sluice <= n; sluice++) {
                for (int turns = 0; turns <= 5; turns++) {
                    x.wind(sluice, turns);
                    for (int gate = 0; gate <= n; gate++) {
                        boolean beside = Math.abs(gate - sluice) <= 1 && turns > 0;
                        int levels = gate == 0 ? LockStaircase.CAN_OPEN : LockStaircase.HAS_HEAD;
                        Check.due("10 gate " + gate + ", sluice " + sluice + ", turns " + turns,
                                x.openObstacle(gate), beside ? LockStaircase.SLUICE_UP : levels);
                    }
                }
                x.wind(sluice, 0);
            }
        }
    }

    /** "CAN_OPEN, or the smallest of IS_OPEN, SLUICE_UP and HAS_HEAD that applies" */
    private static void smallestObstacle10() {
        LockStaircase x = new LockStaircase(2, 5, 50);
        gate("10 none", x, 0, 0, LockStaircase.CAN_OPEN);
        x.wind(1, 1);
        gate("10 a sluice alone", x, 0, 0, LockStaircase.SLUICE_UP);
        gate("10 a sluice and a head", x, 1, 5, LockStaircase.SLUICE_UP);
        x.wind(1, 0);
        gate("10 a head alone", x, 1, 5, LockStaircase.HAS_HEAD);
        x.open(0);
        Check.due("10 open", x.openObstacle(0), LockStaircase.IS_OPEN);
        Check.due("10 beside an open gate", x.openObstacle(1), LockStaircase.HAS_HEAD);
        x.wind(2, 1);
        Check.due("10 open, with a sluice two above", x.openObstacle(0), LockStaircase.IS_OPEN);
    }

    /** Six chambers that are empty and full in turns, so that no gate with an even number has a head. */
    private static LockStaircase emptyAndFull() {
        LockStaircase x = Setup.brimful(6, 20, 50);
        Setup.drain(x, 4);
        Setup.carry(x, 5, 1);
        Setup.fill(x, 5);
        Setup.carry(x, 5, 3);
        Setup.fill(x, 5);
        return x;
    }

    /** "Returns the number of open gates." */
    private static void openGates11() {
        LockStaircase x = emptyAndFull();
        Check.due("11 the lowest", x.open(0), 1);
        Check.due("11 a second one", x.open(4), 2);
        Check.due("11 the highest", x.open(6), 3);
        Check.due("11 all that have no head", x.open(2), 4);
        Check.due("11 holds", x.isConsistent(), true);
        for (int gate = 0; gate <= 6; gate++) {
            int number = gate;
            Check.due("11 gate " + gate, x.isOpen(gate), gate % 2 == 0);
            Check.refusesState("11 open(" + gate + ") again", x, () -> x.open(number));
        }
        Check.due("11 shut one", x.shut(4), true);
        Check.due("11 open it again", x.open(4), 4);
    }

    /** "Throws IllegalStateException if openObstacle(gate) is not CAN_OPEN": for each of the three obstacles */
    private static void refusedOpening11() {
        LockStaircase x = new LockStaircase(2, 5, 50);
        x.wind(0, 1);
        Check.refusesState("11 its own sluice", x, () -> x.open(0));
        x.wind(0, 0);
        x.wind(1, 5);
        Check.refusesState("11 the next sluice above", x, () -> x.open(0));
        x.wind(1, 0);
        x.wind(2, 1);
        Check.due("11 a sluice two above", x.open(0), 1);
        Check.refusesState("11 it is open", x, () -> x.open(0));
        Check.refusesState("11 a head", x, () -> x.open(1));
        Check.refusesIndex("11 above the highest gate", x, () -> x.open(3));
        Check.refusesIndex("11 below the lowest gate", x, () -> x.open(-1));
    }

    /** "Returns true if it was open.", with all others left as they are */
    private static void shutting12() {
        LockStaircase x = emptyAndFull();
        x.open(0);
        x.open(6);
        Check.due("12 a shut one in between", x.shut(3), false);
        Check.due("12 the highest", x.shut(6), true);
        Check.due("12 the highest again", x.shut(6), false);
        Check.due("12 the lowest is open yet", x.isOpen(0), true);
        Check.due("12 the lowest", x.shut(0), true);
        Check.due("12 the lowest again", x.shut(0), false);
        x.wind(6, 5);
        Check.due("12 beside a sluice", x.shut(6), false);
        Check.due("12 the sluice stays", x.turnsOf(6), 5);
    }

    /** "Each gate has a sluice with 0 to 5 turns, 0 at first." */
    private static void turns13() {
        LockStaircase x = new LockStaircase(6, 40, 50);
        for (int gate = 0; gate <= 6; gate++) {
            Check.due("13 at first " + gate, x.turnsOf(gate), 0);
            Check.due("13 wind " + gate, x.wind(gate, gate % 6), 0);
        }
        for (int gate = 0; gate <= 6; gate++) {
            Check.due("13 then " + gate, x.turnsOf(gate), gate % 6);
        }
    }

    /** "turns, 0 to 5", "Returns the turns before." */
    private static void turnsOfWind14() {
        LockStaircase x = new LockStaircase(1, 40, 50);
        int before = 0;
        int[] turns = {0, 1, 5, 5, 4, 0, 0, 2, 3};
        for (int number : turns) {
            Check.due("14 before " + number, x.wind(1, number), before);
            Check.due("14 turns " + number, x.turnsOf(1), number);
            before = number;
        }
        int[] wrong = {LEAST, LEAST + 1, -5, -2, -1, 6, 7, 256, 65536, MOST - 1, MOST};
        for (int number : wrong) {
            Check.refusesArgument("14 wind(1, " + number + ")", x, () -> x.wind(1, number));
            Check.refusesArgument("14 wind(0, " + number + ")", x, () -> x.wind(0, number));
        }
    }

    /** "It cannot be wound to more than 0 turns while its gate, or the next gate below or above, is open." */
    private static void gatesBeside14() {
        for (int n = 1; n <= 6; n++) {
            for (int open = 0; open <= n; open++) {
                LockStaircase x = Setup.levelled(n, 5, 50, open);
                Check.due("14 open " + open + " of " + n, x.open(open), 1);
                for (int gate = 0; gate <= n; gate++) {
                    windBeside(x, gate, Math.abs(gate - open) <= 1);
                }
                x.shut(open);
                for (int gate = 0; gate <= n; gate++) {
                    windBeside(x, gate, false);
                }
            }
        }
    }

    private static void windBeside(LockStaircase x, int gate, boolean beside) {
        Check.due("14 no turns", x.wind(gate, 0), 0);
        for (int turns = 1; turns <= 5; turns += 4) {
            int number = turns;
            if (beside) {
                Check.refusesState("14 turns beside an open gate", x, () -> x.wind(gate, number));
            } else {
                Check.due("14 turns", x.wind(gate, turns), 0);
                Check.due("14 no turns again", x.wind(gate, 0), turns);
            }
        }
    }

    /** "If several exceptions apply to a call, the one that is listed first is thrown." */
    private static void orderOfExceptions14() {
        LockStaircase x = Setup.levelled(1, 5, 50, 1);
        x.open(1);
        Check.refusesIndex("14 no gate above an open one", x, () -> x.wind(2, 1));
        Check.refusesIndex("14 no gate, no turns", x, () -> x.wind(2, 0));
        Check.refusesIndex("14 no gate, too many turns", x, () -> x.wind(2, 6));
        Check.refusesIndex("14 no gate, too few turns", x, () -> x.wind(-1, -1));
        Check.refusesIndex("14 no gate at all", x, () -> x.wind(LEAST, MOST));
        Check.refusesIndex("14 no gate at all", x, () -> x.wind(MOST, LEAST));
        Check.refusesArgument("14 too many turns at an open gate", x, () -> x.wind(1, 6));
        Check.refusesArgument("14 too many turns beside it", x, () -> x.wind(0, MOST));
        Check.refusesArgument("14 too few turns at an open gate", x, () -> x.wind(1, -1));
        Check.refusesArgument("14 too few turns beside it", x, () -> x.wind(0, LEAST));
        Check.refusesState("14 at an open gate", x, () -> x.wind(1, 1));
        LockStaircase y = new LockStaircase(1, 5, 50);
        y.open(0);
        Check.refusesIndex("14 no gate below an open one", y, () -> y.wind(-1, 1));
        Check.refusesIndex("11 no gate below an open one", y, () -> y.open(-1));
        Check.refusesIndex("11 no gate above the highest", y, () -> y.open(2));
    }

    /** "4 times as many units as its sluice has turns flow one after the other" */
    private static void unitsAMinute15() {
        for (int turns = 0; turns <= 5; turns++) {
            LockStaircase x = new LockStaircase(1, 40, 50);
            x.wind(1, turns);
            Check.due("15 into the highest chamber, " + turns, x.pass(1), 4 * turns);
            Check.due("15 level, " + turns, x.levelOf(0), 4 * turns);
            LockStaircase y = Setup.brimful(1, 40, 50);
            y.wind(0, turns);
            Check.due("15 out of chamber 0, " + turns, y.pass(1), 4 * turns);
            Check.due("15 lost, " + turns, y.lostWater(), 4 * turns);
            LockStaircase z = lowAndFull();
            z.wind(1, turns);
            Check.due("15 between chambers, " + turns, z.pass(1), 4 * turns);
            Check.due("15 level 0, " + turns, z.levelOf(0), 4 * turns);
            Check.due("15 level 1, " + turns, z.levelOf(1), 80 - 4 * turns);
        }
    }

    /** "as far as they flow": one less than a minute takes, just as many, and one more */
    private static void unitsOfALowerGate15() {
        int[] lift = {19, 20, 21};
        int[] first = {19, 20, 20};
        int[] second = {0, 0, 1};
        for (int row = 0; row < lift.length; row++) {
            LockStaircase x = Setup.brimful(1, lift[row], 50);
            x.wind(0, 5);
            Check.due("15 first minute of " + lift[row], x.pass(1), first[row]);
            Check.due("15 second minute of " + lift[row], x.pass(1), second[row]);
            LockStaircase y = Setup.brimful(2, lift[row], 50);
            Setup.drain(y, 0);
            y.wind(1, 5);
            Check.due("15 first minute between chambers of " + lift[row], y.pass(1), first[row]);
            Check.due("15 second minute between chambers of " + lift[row], y.pass(1), second[row]);
        }
    }

    /** "if the level of the pound, found anew for each unit, is greater than that of the chamber" */
    private static void levelOfThePoundForEachUnit15() {
        int[] head = {0, 1, 2, 3, 4, 5};
        int[] units = {0, 1, 1, 2, 2, 3};
        for (int row = 0; row < head.length; row++) {
            LockStaircase x = new LockStaircase(1, 40, 1);
            Setup.exhaust(x);
            if (head[row] > 0) {
                x.rain(head[row]);
            }
            Check.due("15 head " + head[row], x.headAt(1), head[row]);
            Check.due("15 units of head " + head[row], Setup.let(x, 1, 5), units[row]);
            Check.due("15 level after head " + head[row], x.levelOf(0), units[row]);
            Check.due("15 head after " + head[row], x.headAt(1), head[row] - 2 * units[row]);
            Check.due("15 no more after " + head[row], Setup.let(x, 1, 5), 0);
        }
    }

    /** With an area of 2 the level of the pound falls at every second unit. */
    private static void waterWithinALevel15() {
        int[] water = {-39, -38, -37, -36, -35, -34};
        int[] units = {0, 1, 1, 1, 2, 2};
        int[] head = {0, -1, 0, 0, -1, 0};
        for (int row = 0; row < water.length; row++) {
            LockStaircase x = new LockStaircase(1, 40, 2);
            Setup.exhaust(x);
            Check.due("15 the pound at the floor", x.poundWater(), -39);
            if (row > 0) {
                x.rain(row);
            }
            Check.due("15 water " + water[row], x.poundWater(), water[row]);
            Check.due("15 units of water " + water[row], Setup.let(x, 1, 5), units[row]);
            Check.due("15 head of water " + water[row], x.headAt(1), head[row]);
        }
    }

    /** "for each gate in ascending order ... with the levels that the gates before have left" */
    private static void ascendingOrder15() {
        LockStaircase x = Setup.brimful(3, 5, 50);
        for (int gate = 0; gate <= 3; gate++) {
            x.wind(gate, 1);
        }
        Check.due("15 room is made from below", x.pass(1), 15);
        Check.due("15 chamber 0", x.levelOf(0), 5);
        Check.due("15 chamber 1", x.levelOf(1), 10);
        Check.due("15 chamber 2", x.levelOf(2), 14);
        Check.due("15 pound", x.poundWater(), 997);
        LockStaircase y = new LockStaircase(3, 5, 50);
        for (int gate = 0; gate <= 3; gate++) {
            y.wind(gate, 5);
        }
        int[] units = {4, 8, 12, 16, 16};
        for (int minute = 0; minute < units.length; minute++) {
            Check.due("15 water comes down in minute " + minute, y.pass(1), units[minute]);
        }
        Check.due("15 lost", y.lostWater(), 8);
    }

    /** "number of minutes, 1 to 60" */
    private static void minutesOfPass15() {
        LockStaircase x = Setup.brimful(6, 40, 50);
        x.wind(0, 1);
        int[] wrong = {LEAST, LEAST + 1, -60, -1, 0, 61, 62, 256, 65536, MOST - 1, MOST};
        for (int minutes : wrong) {
            Check.refusesArgument("15 pass(" + minutes + ")", x, () -> x.pass(minutes));
        }
        Check.due("15 pass(1)", x.pass(1), 4);
        Check.due("15 clock of 1", x.clock(), 1 + clockOfBrimful6());
        Check.due("15 pass(2)", x.pass(2), 8);
        Check.due("15 clock of 2", x.clock(), 3 + clockOfBrimful6());
        Check.due("15 pass(59) until it is empty", x.pass(59), 28);
        Check.due("15 clock of 59", x.clock(), 62 + clockOfBrimful6());
        Check.due("15 pass(60) of nothing", x.pass(60), 0);
        Check.due("15 clock of 60", x.clock(), 122 + clockOfBrimful6());
    }

    private static int clockOfBrimful6() {
        return Setup.brimful(6, 40, 50).clock();
    }

    /** "the number of units that flow through all sluices": of all minutes and all gates */
    private static void unitsOfAllSluices15() {
        LockStaircase x = Setup.brimful(2, 40, 50);
        x.wind(0, 1);
        x.wind(1, 1);
        x.wind(2, 1);
        Check.due("15 of one minute", x.pass(1), 4 + 4 + 3);
        x.rain(999);
        Check.due("15 of two minutes", x.pass(2), 2 * (4 + 4 + 4));
        LockStaircase y = Setup.brimful(1, 40, 50);
        y.wind(0, 5);
        Check.due("15 of 60 minutes", y.pass(60), 40);
        LockStaircase z = Setup.brimful(6, 40, 50);
        for (int gate = 0; gate < 6; gate++) {
            z.wind(gate, 5);
        }
        Check.due("15 of six chambers", z.pass(60), 40 * (1 + 2 + 3 + 4 + 5 + 6));
        Check.due("15 lost of six chambers", z.lostWater(), 240);
    }

    /** The clock goes by pass and by takings alone. */
    private static void clock16() {
        LockStaircase x = new LockStaircase(1, 5, 50);
        Check.due("16 at first", x.clock(), 0);
        x.rain(999);
        x.open(0);
        x.addBoat(5, 1, false);
        x.move(0, true);
        x.shut(0);
        x.wind(1, 1);
        x.minutesFor(0, true);
        x.waterFor(0, true);
        Check.due("16 nothing else takes time", x.clock(), 0);
        x.pass(1);
        Check.due("16 one", x.clock(), 1);
        x.pass(60);
        Check.due("16 sixty more", x.clock(), 61);
        Check.refusesArgument("16 a refused pass", x, () -> x.pass(61));
        Check.due("16 as before", x.clock(), 61);
    }
}
