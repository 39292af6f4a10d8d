/**
 * The edges of boats and places: the section "Terms" on boats, and promises 17 to 23.
 * Each row stands on an edge or one step beside it; the comments are the document's own words.
 */
public final class BoatsEdgeTest {
    private static final int LEAST = Setup.LEAST;
    private static final int MOST = Setup.MOST;
    private static final int[] TOO_FAR = {LEAST, LEAST + 1, -2, -1, MOST - 1, MOST};

    public static void main(String[] args) {
        length17();
        draught17();
        depthForABoat17();
        tenBoats17();
        orderOfExceptions17();
        boatNumbers18and19();
        places19and20();
        freeLength21();
        lengthsTogether22();
        tenBoatsInAChamber22();
        reachAndPoundAreNeverFull22();
        noWay22();
        gateShut22();
        shallow22();
        shallowOnlyForThePound22();
        smallestObstacle22();
        refusedMoves23();
        Check.finish("BoatsEdgeTest");
    }

    /** "length, 5 to 60" */
    private static void length17() {
        LockStaircase x = new LockStaircase(1, 5, 50);
        int[] wrong = {LEAST, LEAST + 1, -5, -1, 0, 3, 4, 61, 62, 256, 65536 + 5, MOST - 1, MOST};
        for (int length : wrong) {
            Check.refusesArgument("17 length " + length, x, () -> x.addBoat(length, 1, false));
            Check.refusesArgument("17 length " + length + " above", x, () -> x.addBoat(length, 19, true));
        }
        int[] right = {5, 6, 59, 60};
        for (int boat = 0; boat < right.length; boat++) {
            Check.due("17 length " + right[boat], x.addBoat(right[boat], 10, boat % 2 == 0), boat);
        }
        Check.due("17 four boats", x.boatCount(), 4);
    }

    /** "draught, 1 to 19" */
    private static void draught17() {
        LockStaircase x = new LockStaircase(1, 5, 50);
        int[] wrong = {LEAST, LEAST + 1, -19, -1, 0, 20, 21, 256, 65536 + 1, MOST - 1, MOST};
        for (int draught : wrong) {
            Check.refusesArgument("17 draught " + draught, x, () -> x.addBoat(5, draught, false));
            Check.refusesArgument("17 draught " + draught + " above", x, () -> x.addBoat(60, draught, true));
        }
        int[] right = {1, 2, 18, 19};
        for (int boat = 0; boat < right.length; boat++) {
            Check.due("17 draught " + right[boat], x.addBoat(30, right[boat], boat % 2 == 0), boat);
        }
        Check.due("17 four boats", x.boatCount(), 4);
    }

    /** "or if above is true and the depth of the pound is less than the draught" */
    private static void depthForABoat17() {
        int[] depth = {-20, -1, 0, 1, 2, 17, 18, 19, 20};
        for (int d : depth) {
            LockStaircase x = new LockStaircase(1, 40, 1);
            Setup.exhaust(x);
            if (d > -20) {
                x.rain(d + 20);
            }
            Check.due("17 depth " + d, x.poundDepth(), d);
            int boats = 0;
            int[] draughts = {d - 1, d, d + 1, 1, 19};
            for (int draught : draughts) {
                if (draught < 1 || draught > 19) {
                    continue;
                }
                String what = "17 draught " + draught + " at depth " + d;
                if (draught <= d) {
                    Check.due(what, x.addBoat(5, draught, true), boats++);
                } else {
                    Check.refusesState(what, x, () -> x.addBoat(5, draught, true));
                }
                Check.due(what + " below", x.addBoat(5, draught, false), boats++);
            }
        }
    }

    /** "There are at most 10 boats, numbered from 0 in the order in which they were added." */
    private static void tenBoats17() {
        for (int mixture = 0; mixture < 3; mixture++) {
            LockStaircase x = new LockStaircase(1, 5, 50);
            for (int boat = 0; boat < 10; boat++) {
                boolean above = mixture == 1 || mixture == 2 && boat % 2 == 1;
                Check.due("18 boats before " + boat, x.boatCount(), boat);
                Check.due("17 boat " + boat, x.addBoat(5 + boat, 1 + boat, above), boat);
                Check.due("19 place of " + boat, x.placeOf(boat), above ? 2 : 0);
            }
            Check.due("18 ten boats", x.boatCount(), 10);
            Check.refusesState("17 an eleventh below", x, () -> x.addBoat(5, 1, false));
            Check.refusesState("17 an eleventh above", x, () -> x.addBoat(5, 1, true));
            Check.due("18 ten boats still", x.boatCount(), 10);
            Check.refusesIndex("19 an eleventh", x, () -> x.placeOf(10));
            int[] shared = {x.boatsAt(0), x.boatsAt(2)};
            Check.due("20 in the reach", shared[0], mixture == 0 ? 10 : mixture == 1 ? 0 : 5);
            Check.due("20 in the pound", shared[1], 10 - shared[0]);
        }
    }

    /** IllegalArgumentException is listed before IllegalStateException. */
    private static void orderOfExceptions17() {
        LockStaircase full = new LockStaircase(1, 5, 50);
        Setup.addBoats(full, 10, 60, 19, true);
        Check.refusesArgument("17 an eleventh, too short", full, () -> full.addBoat(4, 1, false));
        Check.refusesArgument("17 an eleventh, too long", full, () -> full.addBoat(61, 1, true));
        Check.refusesArgument("17 an eleventh, too flat", full, () -> full.addBoat(5, 0, true));
        Check.refusesArgument("17 an eleventh, too deep", full, () -> full.addBoat(60, 20, false));
        Check.refusesArgument("17 an eleventh, all wrong", full, () -> full.addBoat(LEAST, MOST, true));
        LockStaircase dry = new LockStaircase(1, 40, 1);
        Setup.exhaust(dry);
        Check.refusesArgument("17 too short for a dry pound", dry, () -> dry.addBoat(4, 19, true));
        Check.refusesArgument("17 too long for a dry pound", dry, () -> dry.addBoat(61, 19, true));
        Check.refusesArgument("17 too flat for a dry pound", dry, () -> dry.addBoat(5, 0, true));
        Check.refusesArgument("17 deeper than any pound", dry, () -> dry.addBoat(5, 20, true));
        Check.refusesState("17 a dry pound", dry, () -> dry.addBoat(5, 1, true));
        Setup.addBoats(dry, 10, 5, 1, false);
        Check.refusesState("17 an eleventh for a dry pound", dry, () -> dry.addBoat(5, 1, true));
    }

    private static void boatNumbers18and19() {
        LockStaircase x = new LockStaircase(3, 5, 50);
        for (int boats = 0; boats <= 10; boats++) {
            Check.due("18 boats", x.boatCount(), boats);
            int[] missing = {LEAST, -1, boats, boats + 1, MOST};
            for (int boat : missing) {
                String what = boat + " of " + boats + " boats";
                Check.refusesIndex("19 placeOf " + what, x, () -> x.placeOf(boat));
                Check.refusesIndex("22 moveObstacle " + what, x, () -> x.moveObstacle(boat, true));
                Check.refusesIndex("23 move " + what, x, () -> x.move(boat, false));
                Check.refusesIndex("24 take " + what, x, () -> x.take(boat, true));
                Check.refusesIndex("28 minutesFor " + what, x, () -> x.minutesFor(boat, false));
                Check.refusesIndex("29 waterFor " + what, x, () -> x.waterFor(boat, true));
            }
            if (boats > 0) {
                Check.due("19 the first of " + boats, x.placeOf(0), 0);
                Check.due("19 the last of " + boats, x.placeOf(boats - 1), boats % 2 == 0 ? 4 : 0);
            }
            if (boats < 10) {
                x.addBoat(5, 1, boats % 2 == 1);
            }
        }
    }

    /** "0 is the lower reach, C + 1 the chamber C, and the greatest number is that of the pound" */
    private static void places19and20() {
        for (int n = 1; n <= 6; n++) {
            LockStaircase x = Setup.levelled(n, 5, 50, n);
            x.addBoat(5, 1, false);
            x.addBoat(5, 1, true);
            Check.due("19 the reach of " + n, x.placeOf(0), 0);
            Check.due("19 the pound of " + n, x.placeOf(1), n + 1);
            x.open(n);
            Check.due("23 into the highest chamber", x.move(1, false), n);
            Check.due("19 the highest chamber of " + n, x.placeOf(1), n);
            Check.due("21 room of the highest chamber of " + n, x.freeLength(n - 1), 55);
            int sum = 0;
            for (int place = 0; place <= n + 1; place++) {
                Check.due("20 place " + place + " of " + n, x.boatsAt(place), place == 0 || place == n ? 1 : 0);
                sum += x.boatsAt(place);
            }
            Check.due("20 all boats", sum, x.boatCount());
            Check.refusesIndex("20 above the pound", x, () -> x.boatsAt(x.chambers() + 2));
            for (int place : TOO_FAR) {
                Check.refusesIndex("20 boatsAt(" + place + ")", x, () -> x.boatsAt(place));
            }
        }
    }

    /** "60 minus the lengths of all boats in it": with no boat, some, and no room left */
    private static void freeLength21() {
        LockStaircase x = new LockStaircase(2, 5, 50);
        x.addBoat(60, 1, true);
        x.addBoat(5, 1, false);
        x.addBoat(54, 1, false);
        Check.due("21 boats elsewhere", x.freeLength(0), 60);
        x.open(0);
        x.move(1, true);
        Check.due("21 the shortest boat", x.freeLength(0), 55);
        x.move(2, true);
        Check.due("21 one is left", x.freeLength(0), 1);
        Check.due("21 the other chamber", x.freeLength(1), 60);
        x.move(1, false);
        Check.due("21 one went", x.freeLength(0), 6);
        x.move(2, false);
        Check.due("21 none again", x.freeLength(0), 60);
        x.addBoat(60, 1, false);
        x.move(3, true);
        Check.due("21 the longest boat", x.freeLength(0), 0);
        Check.refusesIndex("21 freeLength(2)", x, () -> x.freeLength(2));
        Check.refusesIndex("21 freeLength(3)", x, () -> x.freeLength(3));
        for (int chamber : TOO_FAR) {
            Check.refusesIndex("21 freeLength(" + chamber + ")", x, () -> x.freeLength(chamber));
        }
    }

    /** "the lengths of all boats in it and of this one together would be greater than 60" */
    private static void lengthsTogether22() {
        int[] there = {5, 30, 54, 55, 60};
        for (int length : there) {
            LockStaircase x = Setup.withBoatInChamber0(1, 5, 50, length, 1);
            x.open(0);
            int boat = 1;
            int[] wanted = {59 - length, 60 - length, 61 - length, 5};
            for (int other : wanted) {
                if (other < 5) {
                    continue;
                }
                x.addBoat(other, 1, false);
                boolean fits = length + other <= 60;
                String what = other + " beside " + length;
                Check.due("22 " + what, x.moveObstacle(boat, true),
                        fits ? LockStaircase.CAN_MOVE : LockStaircase.NO_ROOM);
                int number = boat;
                if (fits) {
                    Check.due("23 " + what, x.move(boat, true), 1);
                    Check.due("21 " + what, x.freeLength(0), 60 - length - other);
                    Check.due("23 back", x.move(boat, false), 0);
                } else {
                    Check.refusesState("23 " + what, x, () -> x.move(number, true));
                }
                boat++;
            }
        }
    }

    private static void tenBoatsInAChamber22() {
        LockStaircase x = new LockStaircase(1, 5, 50);
        x.open(0);
        Setup.addBoats(x, 9, 6, 1, false);
        x.addBoat(7, 1, false);
        for (int boat = 0; boat < 9; boat++) {
            Check.due("23 boat " + boat, x.move(boat, true), 1);
        }
        Check.due("20 nine boats", x.boatsAt(1), 9);
        Check.due("21 room for six", x.freeLength(0), 6);
        Check.due("22 seven", x.moveObstacle(9, true), LockStaircase.NO_ROOM);
        Check.refusesState("23 seven", x, () -> x.move(9, true));
        Check.due("23 one goes", x.move(3, false), 0);
        Check.due("23 seven then", x.move(9, true), 1);
        Check.due("21 room for five", x.freeLength(0), 5);
        Check.due("22 six", x.moveObstacle(3, true), LockStaircase.NO_ROOM);
        LockStaircase y = new LockStaircase(1, 5, 50);
        y.open(0);
        Setup.addBoats(y, 10, 6, 1, false);
        for (int boat = 0; boat < 10; boat++) {
            Check.due("23 ten boats, " + boat, y.move(boat, true), 1);
        }
        Check.due("20 ten boats", y.boatsAt(1), 10);
        Check.due("21 no room at all", y.freeLength(0), 0);
        Check.due("20 none is left", y.boatsAt(0), 0);
    }

    /** NO_ROOM: "the place is a chamber" */
    private static void reachAndPoundAreNeverFull22() {
        LockStaircase x = Setup.withBoatInChamber0(1, 5, 50, 60, 1);
        Setup.addBoats(x, 4, 60, 1, false);
        Setup.addBoats(x, 5, 60, 1, true);
        x.open(0);
        Check.due("22 to four of 60 in the reach", x.moveObstacle(0, false), LockStaircase.CAN_MOVE);
        x.shut(0);
        Setup.fill(x, 0);
        x.open(1);
        Check.due("22 to five of 60 in the pound", x.moveObstacle(0, true), LockStaircase.CAN_MOVE);
        Check.due("23 to five of 60 in the pound", x.move(0, true), 2);
        Check.due("20 six in the pound", x.boatsAt(2), 6);
    }

    /** "NO_WAY, there is no such place" */
    private static void noWay22() {
        LockStaircase x = Setup.levelled(2, 5, 50, 2);
        x.addBoat(5, 1, false);
        x.addBoat(5, 1, true);
        Setup.drain(x, 0);
        x.open(0);
        x.open(2);
        Check.due("22 down from the reach", x.moveObstacle(0, false), LockStaircase.NO_WAY);
        Check.refusesState("23 down from the reach", x, () -> x.move(0, false));
        Check.due("22 up from the pound", x.moveObstacle(1, true), LockStaircase.NO_WAY);
        Check.refusesState("23 up from the pound", x, () -> x.move(1, true));
        Check.due("22 up from the reach", x.moveObstacle(0, true), LockStaircase.CAN_MOVE);
        Check.due("22 down from the pound", x.moveObstacle(1, false), LockStaircase.CAN_MOVE);
        Check.due("23 up from the reach", x.move(0, true), 1);
        Check.due("23 down from the pound", x.move(1, false), 2);
        Check.due("22 down from chamber 0", x.moveObstacle(0, false), LockStaircase.CAN_MOVE);
        Check.due("22 up from chamber 1", x.moveObstacle(1, true), LockStaircase.CAN_MOVE);
        Check.due("22 up from chamber 0", x.moveObstacle(0, true), LockStaircase.GATE_SHUT);
        Check.due("22 down from chamber 1", x.moveObstacle(1, false), LockStaircase.GATE_SHUT);
        Check.due("23 down from chamber 0", x.move(0, false), 0);
        Check.due("23 up from chamber 1", x.move(1, true), 3);
    }

    /** "GATE_SHUT, the gate between is shut": the open gates beside it do not help */
    private static void gateShut22() {
        for (int open = 0; open <= 3; open++) {
            LockStaircase x = Setup.levelled(3, 5, 50, open);
            x.addBoat(5, 1, false);
            x.addBoat(5, 1, true);
            x.open(open);
            int below = x.moveObstacle(0, true);
            int above = x.moveObstacle(1, false);
            Check.due("22 gate 0 while " + open + " is open", below,
                    open == 0 ? LockStaircase.CAN_MOVE : LockStaircase.GATE_SHUT);
            Check.due("22 gate 3 while " + open + " is open", above,
                    open == 3 ? LockStaircase.CAN_MOVE : LockStaircase.GATE_SHUT);
        }
        LockStaircase y = Setup.withBoatInChamber0(3, 5, 50, 5, 1);
        y.open(0);
        Check.due("22 up while the gate below is open", y.moveObstacle(0, true), LockStaircase.GATE_SHUT);
        y.shut(0);
        Check.due("22 down at the shut gate", y.moveObstacle(0, false), LockStaircase.GATE_SHUT);
        Check.refusesState("23 down at the shut gate", y, () -> y.move(0, false));
        Setup.fill(y, 0);
        Setup.drain(y, 0);
        Setup.carry(y, 1, 0);
        y.open(1);
        Check.due("22 down while the gate above is open", y.moveObstacle(0, false), LockStaircase.GATE_SHUT);
        Check.due("22 up at the open gate", y.moveObstacle(0, true), LockStaircase.CAN_MOVE);
        Check.due("23 up at the open gate", y.move(0, true), 2);
    }

    /** A chamber with boats of these draughts, beside a pound of this depth, with the gate between open. */
    private static LockStaircase beside(int depth, int... draughts) {
        LockStaircase x = new LockStaircase(1, 40, 1);
        for (int boat = 0; boat < draughts.length; boat++) {
            x.addBoat(5, draughts[boat], false);
        }
        x.open(0);
        for (int boat = 0; boat < draughts.length; boat++) {
            x.move(boat, true);
        }
        x.shut(0);
        Setup.exhaust(x);
        x.wind(1, 1);
        for (int round = 0; round < 80 && x.poundDepth() < depth; round++) {
            x.rain(1);
            x.pass(1);
        }
        if (x.headAt(1) < 0) {
            x.rain(1);
        }
        x.wind(1, 0);
        x.open(1);
        return x;
    }

    private static int draughtNear(int depth) {
        return Math.max(1, Math.min(19, depth));
    }

    /** "TOO_SHALLOW, the place is the pound, and its depth is less than the draught" */
    private static void shallow22() {
        int[] depth = {-20, -1, 0, 1, 2, 10, 18, 19, 20};
        for (int d : depth) {
            int[] draughts = {draughtNear(d - 1), draughtNear(d), draughtNear(d + 1), 1, 19};
            LockStaircase x = beside(d, draughts);
            Check.due("22 depth " + d, x.poundDepth(), d);
            Check.due("22 open at depth " + d, x.isOpen(1), true);
            for (int boat = 0; boat < draughts.length; boat++) {
                String what = draughts[boat] + " at depth " + d;
                int number = boat;
                if (draughts[boat] <= d) {
                    Check.due("22 draught " + what, x.moveObstacle(boat, true), LockStaircase.CAN_MOVE);
                    Check.due("23 draught " + what, x.move(boat, true), 2);
                } else {
                    Check.due("22 draught " + what, x.moveObstacle(boat, true), LockStaircase.TOO_SHALLOW);
                    Check.refusesState("23 draught " + what, x, () -> x.move(number, true));
                }
            }
        }
    }

    /** A boat may leave a pound that has become too shallow for it, and a chamber has no depth of its own. */
    private static void shallowOnlyForThePound22() {
        LockStaircase x = new LockStaircase(1, 40, 1);
        x.addBoat(60, 19, true);
        x.addBoat(60, 19, false);
        Setup.exhaust(x);
        Check.due("22 depth", x.poundDepth(), -20);
        x.open(1);
        Check.due("22 down from a dry pound", x.moveObstacle(0, false), LockStaircase.CAN_MOVE);
        Check.due("23 down from a dry pound", x.move(0, false), 1);
        Check.due("22 up again", x.moveObstacle(0, true), LockStaircase.TOO_SHALLOW);
        x.open(0);
        Check.due("22 down into the reach", x.move(0, false), 0);
        Check.due("22 up into an empty chamber", x.move(1, true), 1);
    }

    /** "the smallest of NO_WAY, GATE_SHUT, NO_ROOM and TOO_SHALLOW that applies" */
    private static void smallestObstacle22() {
        LockStaircase x = new LockStaircase(1, 40, 1);
        x.addBoat(60, 19, true);
        x.addBoat(5, 19, true);
        Setup.exhaust(x);
        Check.due("22 no way and no open gate", x.moveObstacle(0, true), LockStaircase.NO_WAY);
        x.open(1);
        x.move(0, false);
        Check.due("22 no room alone", x.moveObstacle(1, false), LockStaircase.NO_ROOM);
        Check.due("22 shallow alone", x.moveObstacle(0, true), LockStaircase.TOO_SHALLOW);
        x.shut(1);
        Check.due("22 shut and no room", x.moveObstacle(1, false), LockStaircase.GATE_SHUT);
        Check.due("22 shut and shallow", x.moveObstacle(0, true), LockStaircase.GATE_SHUT);
        Check.due("22 no way in a dry pound", x.moveObstacle(1, true), LockStaircase.NO_WAY);
    }

    /** "Throws IllegalStateException if moveObstacle(boat, up) is not CAN_MOVE", and before it the one for the boat */
    private static void refusedMoves23() {
        LockStaircase x = new LockStaircase(1, 40, 1);
        Check.refusesIndex("23 no boat at all", x, () -> x.move(0, true));
        x.addBoat(60, 19, true);
        x.addBoat(5, 19, true);
        x.addBoat(5, 1, false);
        Check.refusesState("23 no way up", x, () -> x.move(0, true));
        Check.refusesState("23 no way down", x, () -> x.move(2, false));
        Check.refusesState("23 shut", x, () -> x.move(2, true));
        Setup.exhaust(x);
        x.open(1);
        Check.due("23 down", x.move(0, false), 1);
        Check.refusesState("23 no room", x, () -> x.move(1, false));
        Check.refusesState("23 too shallow", x, () -> x.move(0, true));
        Check.refusesIndex("23 one boat too far", x, () -> x.move(3, true));
        Check.refusesIndex("23 one boat too near", x, () -> x.move(-1, false));
        int before = x.clock();
        x.open(0);
        Check.due("23 further down", x.move(0, false), 0);
        Check.due("16 a move takes no time", x.clock(), before);
    }
}
