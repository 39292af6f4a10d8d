/**
 * The edges of taking a boat: the section "Terms" on it, and promises 24, 28 and 29.
 * Each row stands on an edge or one step beside it; the comments are the document's own words.
 */
public final class TakingEdgeTest {
    private static final int REACH = 0;

    public static void main(String[] args) {
        minutesOfTheHighestGate();
        minutesOfTheLowestGate();
        roomOfTheChamberBelow();
        lowerChamberAtItsTop();
        minutesBetweenChambers();
        deepestLowering();
        headOfTheHighestGate();
        poundAtTheFloor();
        highestChamberAboveThePound();
        raisedByTheWholeLift();
        minutesOfALowPound();
        raisedByOneUnit();
        poundJustHighEnough();
        enoughInTheChamberAbove();
        highestRaising();
        roomOnTheWay();
        depthOnTheWay();
        isThereAlready();
        gatesAndSluicesBefore();
        gatesAfterAFailure();
        boatsInOneChamber();
        everyLadder();
        Check.finish("TakingEdgeTest");
    }

    /** The forecasts tell what the taking then does, and change nothing; both answers are worked out by hand. */
    private static void takes(String what, LockStaircase x, int boat, boolean up, int place, int minutes, int units,
            String report) {
        boolean fails = !report.isEmpty();
        String before = Check.picture(x);
        Check.due("28 " + what, x.minutesFor(boat, up), fails ? LockStaircase.NONE : minutes);
        Check.due("29 " + what, x.waterFor(boat, up), units);
        Check.due("28 again " + what, x.minutesFor(boat, up), fails ? LockStaircase.NONE : minutes);
        Check.due("28 and 29 change nothing, " + what, Check.picture(x), before);
        int clock = x.clock();
        int water = x.poundWater();
        Check.due("24 " + what, x.take(boat, up), place);
        Check.due("19 " + what, x.placeOf(boat), place);
        Check.due("24 minutes " + what, x.clock() - clock, minutes);
        Check.due("24 water " + what, water - x.poundWater(), units);
        Check.due("25 " + what, Check.report(x), report);
        for (int gate = 0; gate <= x.chambers(); gate++) {
            Check.due("24 gate " + gate + ", " + what, x.isOpen(gate), false);
            Check.due("24 sluice " + gate + ", " + what, x.turnsOf(gate), 0);
        }
        Check.due("33 " + what, x.isConsistent(), true);
    }

    /** "a minute of the clock begins, in which up to 20 units flow": 4, 18, 19, 20, 21, 22, 38 and 39 units */
    private static void minutesOfTheHighestGate() {
        int[] lift = {5, 19, 20, 21, 22, 23, 39, 40};
        int[] minutes = {1, 1, 1, 1, 2, 2, 2, 2};
        for (int row = 0; row < lift.length; row++) {
            String what = "up by " + lift[row];
            LockStaircase x = new LockStaircase(1, lift[row], 50);
            x.addBoat(5, 19, false);
            takes(what, x, 0, true, 2, minutes[row], lift[row] - 1, "");
            Check.due(what + " level", x.levelOf(0), lift[row] - 1);
            Check.due(what + " head", x.headAt(1), 0);
            Check.due(what + " lost", x.lostWater(), 0);
            takes(what + " again", x, 0, true, 2, 0, 0, "");
        }
    }

    /** "For gate 0, chamber 0 is lowered to its floor": no unit, 1, and round a minute's 20 */
    private static void minutesOfTheLowestGate() {
        int[] lift = {5, 19, 20, 21, 39, 40};
        int[] minutes = {1, 1, 1, 2, 2, 2};
        for (int row = 0; row < lift.length; row++) {
            String what = "lowered by " + lift[row];
            LockStaircase x = Setup.withBoatInChamber0(1, lift[row], 50, 60, 1);
            x.addBoat(5, 1, false);
            Setup.fill(x, 0);
            takes(what, x, 1, true, REACH, minutes[row], 0, "6:0 3:-1");
            Check.due(what + " level", x.levelOf(0), 0);
            Check.due(what + " lost", x.lostWater(), lift[row]);
            takes(what + ", at the floor", x, 1, true, REACH, 0, 0, "6:0 3:-1");
        }
        LockStaircase y = Setup.withBoatInChamber0(1, 5, 50, 60, 1);
        Setup.fill(y, 0);
        Setup.let(y, 0, 1);
        Check.due("one unit is left", y.levelOf(0), 1);
        takes("lowered by one", y, 0, false, REACH, 1, 0, "");
        Check.due("five are lost", y.lostWater(), 5);
    }

    /**
     * Chamber 1 is full and chamber 0 has room for 19, 20 or 21 units. "no unit that should flow has failed to flow":
     * with 19 the 20th fails in the first minute; with 20 none fails in it, so "a minute counts also if nothing flows
     * in it"; with 21 the second minute has one unit and a failure.
     */
    private static void roomOfTheChamberBelow() {
        // Chamber 1 down (with chamber 0 emptied between), chamber 0 up by its room, and chamber 0 down.
        roomFor("room for 19", 39, 5, 19, 1 + 2 + 1 + (1 + 1) + 2);
        roomFor("room for 20", 40, 5, 20, 2 + 2 + 1 + (1 + 1) + 2);
        roomFor("room for 21", 37, 4, 21, 2 + 2 + 1 + (2 + 2) + 2);
    }

    private static void roomFor(String what, int lift, int turns, int room, int minutes) {
        LockStaircase x = Setup.brimful(2, lift, 50);
        x.addBoat(60, 19, true);
        Setup.drain(x, 0);
        Setup.let(x, 1, turns);
        Setup.fill(x, 1);
        Check.due(what, lift - x.levelOf(0), room);
        int lost = x.lostWater();
        takes(what, x, 0, false, REACH, minutes, room, "");
        Check.due(what + " level 0", x.levelOf(0), 0);
        Check.due(what + " level 1", x.levelOf(1), lift);
        Check.due(what + " lost", x.lostWater() - lost, 2 * lift);
    }

    /** "if the chamber C - 1 is at its top, that one is lowered to its floor first": at its top, and one below */
    private static void lowerChamberAtItsTop() {
        LockStaircase x = Setup.brimful(2, 40, 50);
        x.addBoat(60, 19, true);
        takes("chamber 0 at its top", x, 0, false, REACH, 2 + 2 + 2, 0, "");
        Check.due("lost", x.lostWater(), 80);
        LockStaircase y = Setup.brimful(2, 5, 50);
        y.addBoat(60, 19, true);
        Setup.drain(y, 0);
        Setup.let(y, 1, 1);
        Setup.fill(y, 1);
        Check.due("one below its top", y.levelOf(0), 4);
        // One unit, chamber 0 down, four units; chamber 0 up by one over two gates; chamber 0 down.
        takes("chamber 0 one below its top", y, 0, false, REACH, 1 + 1 + 1 + (1 + 1) + 1, 1, "");
        Check.due("lost, one below", y.lostWater(), 5 + 10);
        LockStaircase z = Setup.brimful(2, 5, 50);
        z.addBoat(60, 19, true);
        Setup.drain(z, 0);
        takes("chamber 0 at its floor", z, 0, false, REACH, 1 + 1, 0, "");
        Check.due("lost, at its floor", z.lostWater(), 5 + 5);
    }

    /** "until it holds": 19, 20 and 21 units that chamber 0 has just room for */
    private static void minutesBetweenChambers() {
        int[] lift = {5, 19, 20, 21, 39, 40};
        int[] minutes = {1, 1, 1, 2, 2, 2};
        for (int row = 0; row < lift.length; row++) {
            LockStaircase x = Setup.brimful(2, lift[row], 50);
            x.addBoat(60, 19, true);
            Setup.drain(x, 0);
            takes("between chambers, " + lift[row], x, 0, false, REACH, 2 * minutes[row], 0, "");
        }
    }

    /** "where it stops before, because the chamber C - 1 is full, all this is done again": down through six chambers */
    private static void deepestLowering() {
        int[] lift = {5, 20, 21, 40};
        int[] minutes = {21, 21, 42, 42};
        for (int row = 0; row < lift.length; row++) {
            LockStaircase x = Setup.brimful(6, lift[row], 50);
            x.addBoat(60, 19, true);
            takes("down six full chambers of " + lift[row], x, 0, false, REACH, minutes[row], 0, "");
            Check.due("lost by six chambers of " + lift[row], x.lostWater(), 6 * lift[row]);
            for (int chamber = 0; chamber < 6; chamber++) {
                Check.due("level " + chamber, x.levelOf(chamber), chamber * lift[row]);
            }
        }
    }

    /** "as long as its head is not 0": heads of -1, 0, 1, 2 and 3 with a pound that falls by a level with each unit */
    private static void headOfTheHighestGate() {
        int[] rain = {0, 1, 2, 3};
        int[] minutes = {0, 1 + 1, 1 + 1, 1 + 1 + 1};
        int[] units = {0, 1, 1, 2};
        for (int row = 0; row < rain.length; row++) {
            LockStaircase x = new LockStaircase(1, 40, 1);
            x.addBoat(60, 19, true);
            Setup.exhaust(x);
            if (rain[row] > 0) {
                x.rain(rain[row]);
            }
            Check.due("head " + rain[row], x.headAt(1), rain[row]);
            int lost = x.lostWater();
            takes("down at head " + rain[row], x, 0, false, REACH, minutes[row], units[row], "");
            Check.due("lost at head " + rain[row], x.lostWater() - lost, units[row]);
        }
        LockStaircase y = new LockStaircase(1, 40, 1);
        y.addBoat(60, 19, true);
        Setup.exhaust(y);
        y.rain(1);
        Setup.let(y, 1, 1);
        Check.due("head -1", y.headAt(1), -1);
        takes("down at head -1", y, 0, false, REACH, 1, 0, "");
    }

    /** "if the level of the pound is less than the floor of the highest chamber": it is at the floor, and not less */
    private static void poundAtTheFloor() {
        for (int n = 1; n <= 6; n++) {
            LockStaircase x = new LockStaircase(n, 20, 50);
            x.addBoat(60, 19, true);
            Setup.exhaust(x);
            Check.due("the pound at the floor of " + n, x.poundLevel(), 20 * (n - 1));
            Check.due("depth of " + n, x.poundDepth(), 0);
            boolean fails = n > 1;
            // One minute in which nothing flows before the raising of the highest chamber fails.
            takes("down from the floor of " + n, x, 0, false, fails ? n : 0, fails ? 1 : 0, 0,
                    fails ? "6:" + (n - 1) + " 7:" + (n - 2) + " 7:" + (n - 1) + " 5:-1" : "");
        }
    }

    /** "otherwise the highest chamber is lowered to the level of the pound, as told for lowering": by one unit */
    private static void highestChamberAboveThePound() {
        LockStaircase x = Setup.withBoatInChamber0(2, 5, 1, 5, 15);
        lastUnit(x);
        x.rain(2);
        // Up by one over two gates, one unit more from the pound; then chamber 0, at its top, is emptied for one unit.
        takes("head -1 with chamber 0 at its top", x, 0, true, 3, (1 + 1) + 1 + (1 + 1), 2, "");
        Check.due("level 0", x.levelOf(0), 1);
        Check.due("level 1", x.levelOf(1), 5);
        Check.due("pound", x.poundLevel(), 5);
        LockStaircase y = new LockStaircase(2, 5, 1);
        y.addBoat(5, 1, true);
        Setup.let(y, 2, 5);
        Check.due("head of the highest gate", y.headAt(2), -1);
        Check.due("three are above the floor", y.levelOf(1), 8);
        // The highest chamber is lowered to the pound (7) by a unit, and then to its floor by two more; chamber 0 wants
        // two yet, and the pound gives one.
        takes("head -1 with chamber 0 empty", y, 0, false, 2, 1 + 1 + 1, 1, "6:1 7:0 7:1 5:-1");
        Check.due("level 0 then", y.levelOf(0), 3);
        Check.due("level 1 then", y.levelOf(1), 6);
    }

    /** Chamber 0 lacks one unit, chamber 1 is empty, and the pound stands at its floor. */
    private static void lastUnit(LockStaircase x) {
        Setup.exhaust(x);
        for (int unit = 0; unit < 4; unit++) {
            x.rain(1);
            Setup.let(x, 2, 1);
            Setup.let(x, 1, 1);
        }
        Check.due("one unit is wanting", x.levelOf(0), 4);
        Check.due("chamber 1 is empty", x.levelOf(1), 5);
        Check.due("the pound is at its floor", x.poundLevel(), 5);
    }

    /** "let N be the difference": a full pound fills the highest chamber by one less than the lift, not by the lift */
    private static void raisedByTheWholeLift() {
        LockStaircase x = Setup.withBoatInChamber0(2, 5, 50, 5, 19);
        Setup.fill(x, 0);
        Setup.drain(x, 0);
        Setup.carry(x, 1, 0);
        Setup.let(x, 0, 1);
        Check.due("four are wanting", x.levelOf(0), 1);
        takes("raised by four of five", x, 0, true, 3, (1 + 1) + 1, 4 + 4, "");
        LockStaircase y = Setup.withBoatInChamber0(2, 5, 50, 5, 19);
        takes("raised by five of five", y, 0, true, 1, 1, 4, "6:1 7:0 7:1 5:-1");
        Check.due("what has been done stays", y.levelOf(1), 9);
        takes("raised by the rest", y, 0, true, 3, 1 + (1 + 1) + 1, 1 + 4, "");
    }

    /** One unit less than the lift flows; with 20 none fails in the first minute, so a second has the failure alone. */
    private static void minutesOfALowPound() {
        int[] lift = {5, 19, 20, 21, 22, 40};
        int[] minutes = {1, 1, 1, 2, 2, 2};
        for (int row = 0; row < lift.length; row++) {
            LockStaircase x = new LockStaircase(2, lift[row], 50);
            x.addBoat(60, 19, false);
            String what = "a low pound for " + lift[row];
            takes(what, x, 0, true, 1, minutes[row], lift[row] - 1, "6:1 7:0 7:1 5:-1");
            Check.due(what + " level", x.levelOf(1), 2 * lift[row] - 1);
        }
    }

    /** "if its level is still below T then, raising it fails": one unit is wanted, and the pound gives 0, 1 or 2 */
    private static void raisedByOneUnit() {
        int[] rain = {0, 1};
        for (int units : rain) {
            LockStaircase x = Setup.withBoatInChamber0(2, 5, 1, 5, 15);
            lastUnit(x);
            if (units == 0) {
                takes("no unit", x, 0, true, 1, 1, 0, "6:1 7:0 7:1 5:-1");
            } else {
                x.rain(units);
                takes("one unit", x, 0, true, 3, 1 + 1, 1, "");
                Check.due("the depth is the draught", x.poundDepth(), 15);
            }
        }
        LockStaircase y = Setup.withBoatInChamber0(2, 5, 1, 5, 16);
        lastUnit(y);
        y.rain(1);
        takes("one unit, and a draught of one more", y, 0, true, 2, 1 + 1, 1, "6:2 4:-1");
    }

    /** Four units are wanted, and the level of the pound is found anew for each: 953 units just do, 952 do not. */
    private static void poundJustHighEnough() {
        int[] water = {951, 952, 953, 954};
        for (int w : water) {
            LockStaircase x = Setup.withBoatInChamber0(2, 5, 50, 60, 1);
            Setup.fill(x, 0);
            Setup.drain(x, 0);
            Setup.carry(x, 1, 0);
            Setup.let(x, 0, 1);
            fourUnitsThrough(x);
            x.rain(3);
            for (int round = 0; round < 20 && x.poundWater() > 951; round++) {
                fourUnitsThrough(x);
            }
            if (w > 951) {
                x.rain(w - 951);
            }
            String what = "pound of " + w;
            Check.due(what, x.poundWater(), w);
            Check.due(what + " chamber 0", x.levelOf(0), 1);
            Check.due(what + " chamber 1", x.levelOf(1), 5);
            if (w < 953) {
                takes(what, x, 0, true, 1, 1, 3, "6:1 7:0 7:1 5:-1");
            } else {
                // The pound falls to a level of 8, so three units more are enough at the highest gate.
                takes(what, x, 0, true, 3, (1 + 1) + 1, 4 + 3, "");
            }
        }
    }

    /** Takes four units out of the pound and leaves the chambers as they were. */
    private static void fourUnitsThrough(LockStaircase x) {
        Check.due("into chamber 1", Setup.let(x, 2, 1), 4);
        Check.due("into chamber 0", Setup.let(x, 1, 1), 4);
        Check.due("out of chamber 0", Setup.let(x, 0, 1), 4);
    }

    /** "if the level of the chamber C + 1 is less than N above its floor": one less than N, N, and one more */
    private static void enoughInTheChamberAbove() {
        LockStaircase less = fourWanted(7);
        Check.due("three above the floor", less.levelOf(2), 14 + 3);
        // One unit from the pound, four over two gates; then seven are wanted, and the pound gives six.
        takes("one less than N", less, 0, true, 2, (1 + 1 + 1) + 1, 1 + 6, "6:2 7:1 7:2 5:-1");
        LockStaircase just = fourWanted(8);
        Check.due("four above the floor", just.levelOf(2), 16 + 4);
        takes("just N", just, 0, true, 2, (1 + 1) + 1, 0 + 7, "6:2 7:1 7:2 5:-1");
        LockStaircase more = fourWanted(9);
        Check.due("five above the floor", more.levelOf(2), 18 + 5);
        // Four over two gates, the fifth down too; then the eight that are wanted come from the pound, and eight more.
        takes("one more than N", more, 0, true, 4, (1 + 1) + 1 + (1 + 1) + 1, 8 + 8, "");
    }

    /** Chamber 0 wants four units, chamber 1 is empty, and chamber 2 has four less than the lift. */
    private static LockStaircase fourWanted(int lift) {
        LockStaircase x = Setup.withBoatInChamber0(3, lift, 50, 5, 1);
        Setup.fill(x, 0);
        Setup.drain(x, 1);
        Setup.carry(x, 2, 0);
        Setup.fill(x, 2);
        Setup.let(x, 2, 1);
        Setup.let(x, 0, 1);
        Setup.let(x, 1, 1);
        Setup.let(x, 0, 1);
        Check.due("four are wanting", lift - x.levelOf(0), 4);
        Check.due("chamber 1 is empty", x.levelOf(1), lift);
        Check.due("the pound is full", x.poundDepth(), 20);
        return x;
    }

    /** Up through six chambers: all full, and with all water from the pound. */
    private static void highestRaising() {
        int[] lift = {5, 20, 21, 22, 40};
        int[] minutes = {1 + 5 + 1, 1 + 5 + 1, 2 + 10 + 1, 2 + 10 + 2, 2 + 10 + 2};
        for (int row = 0; row < lift.length; row++) {
            LockStaircase x = Setup.brimful(6, lift[row], 50);
            x.addBoat(60, 19, false);
            takes("up six full chambers of " + lift[row], x, 0, true, 7, minutes[row], lift[row] - 1, "");
        }
        LockStaircase y = Setup.withBoatInChamber0(6, 5, 50, 60, 19);
        Setup.fill(y, 0);
        Setup.drain(y, 4);
        Setup.carry(y, 5, 0);
        Setup.let(y, 0, 1);
        y.rain(999);
        Check.due("four are wanting", y.levelOf(0), 1);
        // Four units over six gates; then five are wanted, and the pound gives four.
        takes("up six chambers with the water of the pound", y, 0, true, 2, 6 + 1, 4 + 4,
                "6:2 7:1 7:2 7:3 7:4 7:5 5:-1");
    }

    /** NO_ROOM: 60 together and 61, up from the reach and down from the pound */
    private static void roomOnTheWay() {
        int[] there = {5, 54, 55, 56, 60};
        for (int length : there) {
            LockStaircase x = Setup.withBoatInChamber0(1, 5, 50, length, 1);
            int boat = 1;
            int[] others = {59 - length, 60 - length, 61 - length, 5};
            for (int other : others) {
                if (other < 5) {
                    continue;
                }
                String what = other + " beside " + length;
                boolean fits = other + length <= 60;
                x.addBoat(other, 1, true);
                x.take(boat, false);
                Check.due("24 down, " + what, x.placeOf(boat), fits ? 0 : 2);
                Check.due("25 down, " + what, Check.report(x), fits ? "" : "6:1 3:-1");
                boat++;
                x.addBoat(other, 1, false);
                x.take(boat, true);
                Check.due("24 up, " + what, x.placeOf(boat), fits ? 2 : 0);
                Check.due("25 up, " + what, Check.report(x), fits ? "" : "6:0 3:-1");
                boat++;
            }
        }
    }

    /** TOO_SHALLOW: the pound has a depth of 17 when its gate has been levelled */
    private static void depthOnTheWay() {
        int[] draught = {1, 16, 17, 18, 19};
        for (int d : draught) {
            LockStaircase x = new LockStaircase(1, 5, 1);
            x.addBoat(60, d, false);
            boolean fails = d > 17;
            // Three units up, and down by one, for the pound fell below the chamber.
            takes("draught " + d, x, 0, true, fails ? 1 : 2, 1 + 1, 3, fails ? "6:1 4:-1" : "");
            Check.due("depth", x.poundDepth(), 17);
            Check.due("level", x.levelOf(0), 2);
            takes("draught " + d + " again", x, 0, true, fails ? 1 : 2, 0, 0, fails ? "6:1 4:-1" : "");
        }
        LockStaircase full = Setup.brimful(1, 5, 1);
        full.addBoat(60, 19, true);
        Setup.exhaust(full);
        Check.due("a pound of 15", full.poundDepth(), 15);
        takes("down from a pound that is too shallow", full, 0, false, REACH, 0, 0, "");
        takes("and not up again", full, 0, true, 1, 0, 0, "6:1 4:-1");
    }

    /** "also if it is there already, the report is made anew" */
    private static void isThereAlready() {
        LockStaircase x = new LockStaircase(2, 5, 1);
        x.addBoat(60, 19, false);
        x.addBoat(60, 19, false);
        x.addBoat(60, 19, true);
        x.take(0, true);
        Check.due("25 a failure before", Check.report(x), "6:1 7:0 7:1 5:-1");
        takes("down in the reach", x, 1, false, REACH, 0, 0, "");
        x.take(0, true);
        Check.due("25 a failure again", x.reportLength(), 4);
        takes("up in the pound", x, 2, true, 3, 0, 0, "");
        takes("down in the reach again", x, 1, false, REACH, 0, 0, "");
    }

    /** "all sluices are put down to 0 turns and all gates are shut", and "No other sluice works in these minutes." */
    private static void gatesAndSluicesBefore() {
        LockStaircase x = Setup.brimful(2, 20, 50);
        x.addBoat(60, 19, true);
        x.addBoat(60, 19, false);
        x.open(2);
        x.wind(0, 5);
        takes("there, at an open gate and a sluice", x, 0, true, 3, 0, 0, "");
        x.wind(0, 5);
        x.wind(1, 5);
        x.wind(2, 5);
        takes("there, at three sluices", x, 1, false, REACH, 0, 0, "");
        x.wind(0, 4);
        x.wind(1, 3);
        x.wind(2, 2);
        takes("down, at three sluices", x, 0, false, REACH, 3, 0, "");
        Check.due("no other sluice works", x.lostWater(), 40);
        x.open(0);
        x.wind(2, 1);
        Check.due("a gate is open", x.isOpen(0), true);
        x.minutesFor(0, true);
        x.waterFor(0, true);
        Check.due("28 the gate stays open", x.isOpen(0), true);
        Check.due("28 the sluice stays up", x.turnsOf(2), 1);
        takes("there, at the open gate", x, 0, false, REACH, 0, 0, "");
        LockStaircase y = new LockStaircase(1, 20, 50);
        y.addBoat(60, 19, false);
        y.open(0);
        takes("up from an open gate", y, 0, true, 2, 1, 19, "");
    }

    /** "the taking fails and ends; all gates are shut then, too, and what has been done stays as it is" */
    private static void gatesAfterAFailure() {
        LockStaircase x = Setup.withBoatInChamber0(1, 5, 50, 60, 1);
        x.addBoat(5, 1, false);
        x.open(0);
        takes("no room at gate 0", x, 1, true, REACH, 0, 0, "6:0 3:-1");
        Check.due("the other boat stays", x.placeOf(0), 1);
        LockStaircase y = new LockStaircase(1, 5, 1);
        y.addBoat(5, 19, false);
        y.open(0);
        takes("too shallow", y, 0, true, 1, 2, 3, "6:1 4:-1");
        Check.due("the boat stays on its way", y.boatsAt(1), 1);
        Check.due("the level stays", y.levelOf(0), 2);
        LockStaircase z = new LockStaircase(2, 5, 50);
        z.addBoat(5, 19, false);
        z.open(0);
        takes("low pound", z, 0, true, 1, 1, 4, "6:1 7:0 7:1 5:-1");
        Check.due("the water stays", z.levelOf(1), 9);
    }

    /** Boats that share a chamber do not hinder one another on the way out of it. */
    private static void boatsInOneChamber() {
        LockStaircase x = new LockStaircase(1, 20, 50);
        Setup.addBoats(x, 10, 6, 5, false);
        x.open(0);
        for (int boat = 0; boat < 10; boat++) {
            x.move(boat, true);
        }
        x.shut(0);
        Check.due("21 no room is left", x.freeLength(0), 0);
        takes("the last of ten up", x, 9, true, 2, 1, 19, "");
        takes("the first of ten up", x, 0, true, 2, 0, 0, "");
        takes("another one down", x, 5, false, REACH, 1, 0, "");
        Check.due("20 seven are left", x.boatsAt(1), 7);
        Check.due("20 two are above", x.boatsAt(2), 2);
    }

    /** "until the boat is at the greatest (or the smallest) place": of ladders of every length */
    private static void everyLadder() {
        for (int n = 1; n <= 6; n++) {
            LockStaircase x = Setup.brimful(n, 20, 50);
            x.addBoat(5, 1, false);
            takes("all the way up " + n, x, 0, true, n + 1, n + 1, 19, "");
            Setup.fill(x, 0);
            takes("all the way down " + n, x, 0, false, REACH, n * (n + 1) / 2, 0, "");
        }
    }
}
