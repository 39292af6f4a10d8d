import java.util.function.LongSupplier;

/** Long walks of calls, good and bad ones, on the class and on the model side by side. */
public final class ModelWalkTest {
    private static final String INDEX = "IndexOutOfBoundsException";
    private static final String ARGUMENT = "IllegalArgumentException";
    private static final String STATE = "IllegalStateException";
    private static final int WALKS = 1500;
    private static final int CALLS = 160;

    private static long seed;
    private static LockStaircase x;
    private static Model m;
    private static final int[] reasons = new int[8];
    private static int longestReport;
    private static int negativeHeads;
    private static int negativeWater;
    private static int opened;
    private static int moved;

    public static void main(String[] args) {
        for (int walk = 0; walk < WALKS; walk++) {
            seed = walk * 7919L + 17L;
            walk(walk);
        }
        // A walk that never meets these would prove nothing about them.
        Check.due("walks meet NO_ROOM", reasons[3] > 100, true);
        Check.due("walks meet TOO_SHALLOW", reasons[4] > 100, true);
        Check.due("walks meet LOW_POUND", reasons[5] > 100, true);
        Check.due("walks meet the longest report", longestReport, 8);
        Check.due("walks meet negative heads", negativeHeads > 100, true);
        Check.due("walks meet negative water", negativeWater > 100, true);
        Check.due("walks open gates", opened > 100, true);
        Check.due("walks move boats", moved > 100, true);
        Check.finish("ModelWalkTest");
    }

    private static int any(int least, int most) {
        seed = seed * 6364136223846793005L + 1442695040888963407L;
        return least + (int) ((seed >>> 33) % (most - least + 1));
    }

    private static int oneOf(int... numbers) {
        return numbers[any(0, numbers.length - 1)];
    }

    private static void walk(int walk) {
        int chambers = oneOf(any(-1, 8), any(1, 6));
        int lift = oneOf(any(3, 42), any(5, 40), 5, 40, 10, 20);
        int area = oneOf(any(-1, 52), any(1, 50), 1, 2, 3);
        x = new LockStaircase(chambers, lift, area);
        m = new Model(chambers, lift, area);
        String name = "walk " + walk + " (" + chambers + ", " + lift + ", " + area + ")";
        Check.due(name, Check.picture(x), m.picture());
        for (int call = 0; call < CALLS; call++) {
            String where = name + " call " + call;
            step(where);
            Check.due(where + " then", Check.picture(x), m.picture());
            for (int entry = -1; entry <= m.report.size(); entry++) {
                boolean there = entry >= 0 && entry < m.report.size();
                Check.due(where + " kind " + entry, x.reportKind(entry), there ? m.report.get(entry)[0] : -1);
                Check.due(where + " number " + entry, x.reportNumber(entry), there ? m.report.get(entry)[1] : -1);
            }
            longestReport = Math.max(longestReport, m.report.size());
            negativeHeads += m.head(m.n) < 0 ? 1 : 0;
            negativeWater += m.water < 0 ? 1 : 0;
        }
    }

    private static String answer(LongSupplier call) {
        try {
            return Long.toString(call.getAsLong());
        } catch (RuntimeException e) {
            return e.getClass().getSimpleName();
        }
    }

    private static void step(String where) {
        switch (any(0, 13)) {
            case 0 -> rain(where);
            case 1, 2 -> open(where);
            case 3 -> shut(where);
            case 4, 5 -> wind(where);
            case 6, 7 -> pass(where);
            case 8 -> addBoat(where);
            case 9, 10 -> move(where);
            case 11 -> forecasts(where);
            default -> take(where);
        }
    }

    private static void rain(String where) {
        int units = oneOf(any(-2, 20), any(1, 300), 999, 1000, 0);
        String want;
        if (units < 1 || units > 999) {
            want = ARGUMENT;
        } else if (m.open[m.n]) {
            want = STATE;
        } else {
            int spilled = Math.max(0, m.water + units - 20 * m.area);
            m.water += units - spilled;
            want = Integer.toString(spilled);
        }
        Check.due(where + " rain(" + units + ")", answer(() -> x.rain(units)), want);
    }

    private static boolean isGate(int gate) {
        return gate >= 0 && gate <= m.n;
    }

    private static void open(String where) {
        int gate = any(-1, m.n + 1);
        String want;
        if (!isGate(gate)) {
            want = INDEX;
        } else if (m.openObstacle(gate) != 0) {
            want = STATE;
        } else {
            m.open[gate] = true;
            opened++;
            want = Integer.toString(m.opens());
        }
        Check.due(where + " open(" + gate + ")", answer(() -> x.open(gate)), want);
    }

    private static void shut(String where) {
        int gate = any(-1, m.n + 1);
        String want = !isGate(gate) ? INDEX : m.open[gate] ? "1" : "0";
        if (isGate(gate)) {
            m.open[gate] = false;
        }
        Check.due(where + " shut(" + gate + ")", answer(() -> x.shut(gate) ? 1 : 0), want);
    }

    private static void wind(String where) {
        int gate = any(-1, m.n + 1);
        int turns = oneOf(any(-1, 6), 0, 0, any(1, 5));
        String want;
        if (!isGate(gate)) {
            want = INDEX;
        } else if (turns < 0 || turns > 5) {
            want = ARGUMENT;
        } else if (turns > 0 && m.nearOpen(gate)) {
            want = STATE;
        } else {
            want = Integer.toString(m.turns[gate]);
            m.turns[gate] = turns;
        }
        Check.due(where + " wind(" + gate + ", " + turns + ")", answer(() -> x.wind(gate, turns)), want);
    }

    private static void pass(String where) {
        int minutes = oneOf(any(-1, 3), any(1, 10), 60, 61);
        String want = minutes < 1 || minutes > 60 ? ARGUMENT : Integer.toString(m.pass(minutes));
        Check.due(where + " pass(" + minutes + ")", answer(() -> x.pass(minutes)), want);
    }

    private static void addBoat(String where) {
        int length = oneOf(any(4, 61), any(5, 30));
        int draught = oneOf(any(0, 20), any(1, 19), any(1, 8));
        boolean above = any(0, 1) == 1;
        String want;
        if (length < 5 || length > 60 || draught < 1 || draught > 19) {
            want = ARGUMENT;
        } else if (m.boats.size() == 10 || above && m.depth() < draught) {
            want = STATE;
        } else {
            want = Integer.toString(m.boats.size());
            m.boats.add(new int[] {length, draught, above ? m.n + 1 : 0});
        }
        String call = where + " addBoat(" + length + ", " + draught + ", " + above + ")";
        Check.due(call, answer(() -> x.addBoat(length, draught, above)), want);
    }

    private static int anyBoat() {
        return oneOf(any(-1, m.boats.size()), any(0, Math.max(0, m.boats.size() - 1)));
    }

    private static boolean isBoat(int boat) {
        return boat >= 0 && boat < m.boats.size();
    }

    private static void move(String where) {
        int boat = anyBoat();
        boolean up = any(0, 1) == 1;
        String want;
        if (!isBoat(boat)) {
            want = INDEX;
        } else if (m.moveObstacle(boat, up) != 0) {
            want = STATE;
        } else {
            m.boats.get(boat)[2] += up ? 1 : -1;
            moved++;
            want = Integer.toString(m.boats.get(boat)[2]);
        }
        Check.due(where + " move(" + boat + ", " + up + ")", answer(() -> x.move(boat, up)), want);
    }

    private static void forecasts(String where) {
        int boat = anyBoat();
        boolean up = any(0, 1) == 1;
        String minutes = isBoat(boat) ? Integer.toString(m.minutesFor(boat, up)) : INDEX;
        String water = isBoat(boat) ? Integer.toString(m.waterFor(boat, up)) : INDEX;
        Check.due(where + " minutesFor(" + boat + ", " + up + ")", answer(() -> x.minutesFor(boat, up)), minutes);
        Check.due(where + " waterFor(" + boat + ", " + up + ")", answer(() -> x.waterFor(boat, up)), water);
    }

    private static void take(String where) {
        int boat = anyBoat();
        boolean up = any(0, 1) == 1;
        String want = INDEX;
        if (isBoat(boat)) {
            want = Integer.toString(m.take(boat, up));
            if (!m.report.isEmpty()) {
                reasons[m.report.get(m.report.size() - 1)[0]]++;
            }
        }
        Check.due(where + " take(" + boat + ", " + up + ")", answer(() -> x.take(boat, up)), want);
    }
}
