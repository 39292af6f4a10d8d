/** The edges of the report, promises 25 to 27: empty, with two entries, with each number of chambers, and full. */
public final class ReportEdgeTest {
    private static final int LEAST = Setup.LEAST;
    private static final int MOST = Setup.MOST;

    public static void main(String[] args) {
        empty();
        twoEntries();
        lowPoundFromEachChamber();
        longest();
        emptyAgain();
        keptByOtherCalls();
        Check.finish("ReportEdgeTest");
    }

    /** Each entry as kind:number, and NONE beside the first and the last one and as far as an int can be. */
    private static void report(String what, LockStaircase x, String... entries) {
        int length = entries.length;
        Check.due("25 " + what, x.reportLength(), length);
        for (int entry = 0; entry < length; entry++) {
            Check.due("26 and 27 " + what + ", entry " + entry,
                    x.reportKind(entry) + ":" + x.reportNumber(entry), entries[entry]);
        }
        int[] none = {LEAST, LEAST + 1, -65536, -2, -1, length, length + 1, 8, 9, 256, MOST - 1, MOST};
        for (int entry : none) {
            Check.due("26 " + what + ", no entry " + entry, x.reportKind(entry), LockStaircase.NONE);
            Check.due("27 " + what + ", no entry " + entry, x.reportNumber(entry), LockStaircase.NONE);
        }
    }

    /** "Returns 0 if it did not fail or there was none" */
    private static void empty() {
        for (int n = 1; n <= 6; n++) {
            LockStaircase x = Setup.brimful(n, 5, 50);
            report("none", x);
            x.addBoat(5, 1, false);
            report("none, with a boat", x);
            x.take(0, true);
            report("one that did not fail", x);
        }
    }

    /** "NONE for the last entry": NO_ROOM and TOO_SHALLOW follow the gate at once */
    private static void twoEntries() {
        for (int n = 1; n <= 6; n++) {
            LockStaircase x = Setup.withBoatInChamber0(n, 5, 50, 60, 1);
            x.addBoat(5, 1, false);
            x.take(1, true);
            report("no room, " + n, x, "6:0", "3:-1");
            LockStaircase y = Setup.levelled(n, 5, 50, n);
            y.addBoat(60, 1, true);
            y.addBoat(5, 1, true);
            y.open(n);
            y.move(0, false);
            y.take(1, false);
            report("no room in the highest, " + n, y, "6:" + n, "3:-1");
            LockStaircase z = Setup.brimful(n, 40, 1);
            z.addBoat(5, 19, false);
            z.take(0, true);
            report("too shallow, " + n, z, "6:" + n, "4:-1");
        }
    }

    /** "first that of the gate, then those of the chambers that could not be raised, from the lowest one up" */
    private static void lowPoundFromEachChamber() {
        LockStaircase x = new LockStaircase(6, 5, 50);
        x.addBoat(5, 1, false);
        int place = 1;
        for (int round = 0; round < 40 && place < 7; round++) {
            int reached = x.take(0, true);
            if (reached == 7) {
                report("at last", x);
            } else {
                String[] entries = new String[9 - reached];
                entries[0] = "6:" + reached;
                for (int entry = 1; entry < entries.length - 1; entry++) {
                    entries[entry] = "7:" + (reached + entry - 2);
                }
                entries[entries.length - 1] = "5:-1";
                report("from chamber " + (reached - 1), x, entries);
            }
            Check.due("24 no chamber is left out on the way", reached - place <= 1 || reached == 7, true);
            place = reached;
            x.rain(999);
        }
        Check.due("24 the boat is up", place, 7);
    }

    /** Six chambers: an entry for the gate, one for each chamber, and the last one. */
    private static void longest() {
        LockStaircase x = new LockStaircase(6, 5, 1);
        x.addBoat(5, 1, false);
        x.take(0, true);
        report("the longest", x, "6:1", "7:0", "7:1", "7:2", "7:3", "7:4", "7:5", "5:-1");
        LockStaircase y = new LockStaircase(2, 40, 50);
        y.addBoat(5, 1, false);
        y.take(0, true);
        report("the shortest of a low pound", y, "6:1", "7:0", "7:1", "5:-1");
    }

    /** "of the latest taking": a shorter one leaves nothing of a longer one */
    private static void emptyAgain() {
        LockStaircase x = new LockStaircase(6, 5, 1);
        x.addBoat(56, 1, false);
        x.addBoat(5, 1, false);
        x.addBoat(5, 1, true);
        x.take(0, true);
        report("the longest", x, "6:1", "7:0", "7:1", "7:2", "7:3", "7:4", "7:5", "5:-1");
        x.take(1, true);
        report("a shorter one", x, "6:0", "3:-1");
        x.take(0, true);
        report("a long one again", x, "6:1", "7:0", "7:1", "7:2", "7:3", "7:4", "7:5", "5:-1");
        x.take(2, true);
        report("one that did not fail", x);
        x.take(0, true);
        report("a long one once more", x, "6:1", "7:0", "7:1", "7:2", "7:3", "7:4", "7:5", "5:-1");
        x.take(0, false);
        report("down again", x);
    }

    /** Forecasts, refused calls and all calls that take no boat all the way leave the report as it is. */
    private static void keptByOtherCalls() {
        LockStaircase x = new LockStaircase(2, 5, 50);
        x.addBoat(56, 1, false);
        x.addBoat(5, 1, false);
        x.take(0, true);
        String kept = "6:1 7:0 7:1 5:-1";
        Check.due("25 first", Check.report(x), kept);
        Check.due("28 a forecast of another end", x.minutesFor(1, true), LockStaircase.NONE);
        x.waterFor(1, true);
        x.minutesFor(1, false);
        x.waterFor(1, false);
        Check.due("25 after forecasts", Check.report(x), kept);
        Check.refusesIndex("24 no such boat", x, () -> x.take(2, true));
        Check.refusesIndex("24 no such boat", x, () -> x.take(-1, false));
        Check.due("25 after a refused taking", Check.report(x), kept);
        x.rain(1);
        x.wind(2, 1);
        x.pass(1);
        x.wind(2, 0);
        x.open(0);
        x.move(0, false);
        x.shut(0);
        x.addBoat(5, 1, true);
        Check.due("25 after other calls", Check.report(x), kept);
    }
}
