import java.util.ArrayList;
import java.util.List;

/**
 * Every number that a call takes, one beyond its range, as large and as small as an int can be, and just within it,
 * on ladders in many states: "A number that is not that of a chamber, a gate, a boat or a place causes an
 * IndexOutOfBoundsException", and "A method that throws an exception changes nothing".
 */
public final class NumbersEdgeTest {
    private static final int LEAST = Setup.LEAST;
    private static final int MOST = Setup.MOST;
    private static final int[] FAR = {LEAST, LEAST + 1, -65536, -256, -10, -2, -1,
            64, 128, 255, 256, 32768, 65536, 1 << 30, MOST - 1, MOST};

    private interface Call {
        void on(LockStaircase x, int number);
    }

    public static void main(String[] args) {
        for (LockStaircase x : states()) {
            chambers(x);
            gates(x);
            places(x);
            boats(x);
            amounts(x);
        }
        Check.finish("NumbersEdgeTest");
    }

    /** Ladders that are new, full, empty, with open gates, sluices up, ten boats and a full report. */
    private static List<LockStaircase> states() {
        List<LockStaircase> all = new ArrayList<>();
        for (int n = 1; n <= 6; n++) {
            all.add(new LockStaircase(n, 5, 50));
            LockStaircase open = Setup.levelled(n, 5, 50, n);
            open.addBoat(60, 19, true);
            open.addBoat(5, 1, true);
            open.open(n);
            open.move(0, false);
            all.add(open);
            LockStaircase sluices = Setup.brimful(n, 40, 1);
            Setup.addBoats(sluices, 9, 6, 19, false);
            for (int gate = 0; gate <= n; gate++) {
                sluices.wind(gate, 5);
            }
            all.add(sluices);
        }
        LockStaircase failed = new LockStaircase(6, 5, 1);
        Setup.addBoats(failed, 10, 6, 1, false);
        failed.take(9, true);
        failed.open(0);
        failed.wind(2, 1);
        all.add(failed);
        LockStaircase dry = new LockStaircase(1, 40, 1);
        Setup.addBoats(dry, 10, 60, 19, true);
        Setup.exhaust(dry);
        dry.open(0);
        dry.open(1);
        all.add(dry);
        return all;
    }

    /** The call knows the numbers from 0 to last, and no others. */
    private static void indexed(String what, LockStaircase x, int last, Call call) {
        for (int number : FAR) {
            Check.refusesIndex(what + " " + number, x, () -> call.on(x, number));
        }
        Check.refusesIndex(what + " one beyond", x, () -> call.on(x, last + 1));
        Check.refusesIndex(what + " two beyond", x, () -> call.on(x, last + 2));
    }

    /** The call asks only, so it may be made with every number that there is. */
    private static void asked(String what, LockStaircase x, int last, Call call) {
        String before = Check.pictureWithForecasts(x);
        for (int number = 0; number <= last; number++) {
            String thrown = "nothing";
            try {
                call.on(x, number);
            } catch (RuntimeException e) {
                thrown = e.getClass().getSimpleName();
            }
            Check.due(what + " " + number + " throws", thrown, "nothing");
        }
        Check.due(what + " changes nothing", Check.pictureWithForecasts(x), before);
        indexed(what, x, last, call);
    }

    private static void chambers(LockStaircase x) {
        int last = x.chambers() - 1;
        asked("3 levelOf", x, last, (y, c) -> y.levelOf(c));
        asked("21 freeLength", x, last, (y, c) -> y.freeLength(c));
    }

    private static void gates(LockStaircase x) {
        int last = x.chambers();
        asked("8 headAt", x, last, (y, g) -> y.headAt(g));
        asked("9 isOpen", x, last, (y, g) -> y.isOpen(g));
        asked("10 openObstacle", x, last, (y, g) -> y.openObstacle(g));
        asked("13 turnsOf", x, last, (y, g) -> y.turnsOf(g));
        indexed("11 open", x, last, (y, g) -> y.open(g));
        indexed("12 shut", x, last, (y, g) -> y.shut(g));
        // Whatever the turns are, the exception for the gate is listed first.
        int[] turns = {0, 1, 5, -1, 6, LEAST, MOST};
        for (int t : turns) {
            indexed("14 wind with turns " + t, x, last, (y, g) -> y.wind(g, t));
        }
    }

    private static void places(LockStaircase x) {
        asked("20 boatsAt", x, x.chambers() + 1, (y, p) -> y.boatsAt(p));
    }

    private static void boats(LockStaircase x) {
        int last = x.boatCount() - 1;
        asked("19 placeOf", x, last, (y, b) -> y.placeOf(b));
        boolean[] ways = {false, true};
        for (boolean up : ways) {
            asked("22 moveObstacle " + up, x, last, (y, b) -> y.moveObstacle(b, up));
            asked("28 minutesFor " + up, x, last, (y, b) -> y.minutesFor(b, up));
            asked("29 waterFor " + up, x, last, (y, b) -> y.waterFor(b, up));
            indexed("23 move " + up, x, last, (y, b) -> y.move(b, up));
            indexed("24 take " + up, x, last, (y, b) -> y.take(b, up));
        }
    }

    private static void outside(String what, LockStaircase x, int least, int most, Call call) {
        int[] beside = {least - 2, least - 1, most + 1, most + 2, 65536 + least, LEAST, LEAST + 1, MOST - 1, MOST};
        for (int number : beside) {
            Check.refusesArgument(what + " " + number, x, () -> call.on(x, number));
        }
    }

    /** In every state: an open highest gate, ten boats and open gates beside are looked at only after the amounts. */
    private static void amounts(LockStaircase x) {
        outside("7 rain", x, 1, 999, (y, units) -> y.rain(units));
        outside("15 pass", x, 1, 60, (y, minutes) -> y.pass(minutes));
        for (int gate = 0; gate <= x.chambers(); gate++) {
            int number = gate;
            outside("14 wind " + gate, x, 0, 5, (y, turns) -> y.wind(number, turns));
        }
        boolean[] ways = {false, true};
        for (boolean above : ways) {
            outside("17 length " + above, x, 5, 60, (y, length) -> y.addBoat(length, 1, above));
            outside("17 draught " + above, x, 1, 19, (y, draught) -> y.addBoat(5, draught, above));
            outside("17 both " + above, x, 5, 60, (y, length) -> y.addBoat(length, length, above));
        }
    }
}
