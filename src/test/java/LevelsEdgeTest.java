/**
 * The edges of the constructor and of the levels: the section "Terms" on levels, promises 1 to 7 and 30 to 33.
 * Each row stands on an edge or one step beside it; the comments are the document's own words.
 */
public final class LevelsEdgeTest {
    private static final int LEAST = Setup.LEAST;
    private static final int MOST = Setup.MOST;

    public static void main(String[] args) {
        numberOfChambers1();
        lift1();
        area1();
        allOutside1();
        atFirst1();
        floorsAndTops3();
        lowestChamber3();
        reachStaysAt0();
        depthOfTheLargestPound5();
        depthOfTheSmallestPound5();
        depthOfThreeUnitsALevel5();
        rainOnAFullPound7();
        rainUpToTheBrim7();
        unitsOfRain7();
        rainAtAnOpenGate7();
        lostWater30();
        meanLevel31();
        poundPart32();
        isConsistent33();
        lastOf512Calls();
        Check.finish("LevelsEdgeTest");
    }

    /** "number of chambers; 1 is taken for a number below 1, and 6 for a number above 6" */
    private static void numberOfChambers1() {
        int[] given = {LEAST, LEAST + 1, -1, 0, 1, 2, 3, 4, 5, 6, 7, 8, MOST - 1, MOST};
        int[] taken = {1, 1, 1, 1, 1, 2, 3, 4, 5, 6, 6, 6, 6, 6};
        for (int row = 0; row < given.length; row++) {
            String what = "1 chambers " + given[row];
            LockStaircase x = new LockStaircase(given[row], 7, 3);
            int n = taken[row];
            Check.due(what, x.chambers(), n);
            Check.due(what + " highest", x.levelOf(n - 1), 7 * (n - 1));
            Check.refusesIndex(what + " none higher", x, () -> x.levelOf(n));
            Check.due(what + " highest gate", x.headAt(n), 7);
            Check.refusesIndex(what + " no higher gate", x, () -> x.headAt(n + 1));
            Check.due(what + " pound", x.poundLevel(), 7 * n);
            Check.due(what + " highest place", x.boatsAt(n + 1), 0);
            Check.refusesIndex(what + " no higher place", x, () -> x.boatsAt(n + 2));
        }
    }

    /** "lift; 5 is taken for a number below 5, and 40 for a number above 40" */
    private static void lift1() {
        int[] given = {LEAST, LEAST + 1, -5, 0, 1, 4, 5, 6, 39, 40, 41, 42, 50, MOST - 1, MOST};
        int[] taken = {5, 5, 5, 5, 5, 5, 5, 6, 39, 40, 40, 40, 40, 40, 40};
        for (int row = 0; row < given.length; row++) {
            String what = "1 lift " + given[row];
            LockStaircase x = new LockStaircase(2, given[row], 50);
            int lift = taken[row];
            Check.due(what, x.levelOf(1), lift);
            Check.due(what + " pound", x.poundLevel(), 2 * lift);
            Check.due(what + " depth", x.poundDepth(), 20);
            Setup.fill(x, 0);
            Check.due(what + " top of 0", x.levelOf(0), lift);
            Check.due(what + " top of 1", x.levelOf(1), 2 * lift);
        }
    }

    /** "area of the pound; 1 is taken for a number below 1, and 50 for a number above 50" */
    private static void area1() {
        int[] given = {LEAST, LEAST + 1, -1, 0, 1, 2, 49, 50, 51, 52, MOST - 1, MOST};
        int[] taken = {1, 1, 1, 1, 1, 2, 49, 50, 50, 50, 50, 50};
        for (int row = 0; row < given.length; row++) {
            String what = "1 area " + given[row];
            LockStaircase x = new LockStaircase(2, 20, given[row]);
            Check.due(what, x.poundWater(), 20 * taken[row]);
            Check.due(what + " depth", x.poundDepth(), 20);
            Check.due(what + " level", x.poundLevel(), 40);
            Check.due(what + " part", x.poundPart(), 1.0f);
            Check.due(what + " is full", x.rain(1), 1);
        }
    }

    /** Each limit holds by itself, so all three may be met at once. */
    private static void allOutside1() {
        size(new LockStaircase(LEAST, LEAST, LEAST), 1, 5, 1);
        size(new LockStaircase(0, 4, 0), 1, 5, 1);
        size(new LockStaircase(1, 5, 1), 1, 5, 1);
        size(new LockStaircase(6, 40, 50), 6, 40, 50);
        size(new LockStaircase(7, 41, 51), 6, 40, 50);
        size(new LockStaircase(MOST, MOST, MOST), 6, 40, 50);
        size(new LockStaircase(LEAST, MOST, LEAST), 1, 40, 1);
        size(new LockStaircase(MOST, LEAST, MOST), 6, 5, 50);
        size(new LockStaircase(MOST, MOST, LEAST), 6, 40, 1);
        size(new LockStaircase(0, 5, 50), 1, 5, 50);
        size(new LockStaircase(6, 4, 50), 6, 5, 50);
        size(new LockStaircase(6, 40, 0), 6, 40, 1);
    }

    private static void size(LockStaircase x, int chambers, int lift, int area) {
        String what = "1 size " + chambers + ", " + lift + ", " + area;
        Check.due(what + " chambers", x.chambers(), chambers);
        Check.due(what + " floor", x.levelOf(chambers - 1), (chambers - 1) * lift);
        Check.due(what + " level", x.poundLevel(), chambers * lift);
        Check.due(what + " water", x.poundWater(), 20 * area);
    }

    /** "At first all chambers are at their floors", "All gates are shut at first", "0 to 5 turns, 0 at first" */
    private static void atFirst1() {
        for (int n = 1; n <= 6; n++) {
            String what = "1 at first, " + n;
            LockStaircase x = new LockStaircase(n, 8, 9);
            for (int chamber = 0; chamber < n; chamber++) {
                Check.due(what + " level " + chamber, x.levelOf(chamber), 8 * chamber);
                Check.due(what + " free " + chamber, x.freeLength(chamber), 60);
            }
            for (int gate = 0; gate <= n; gate++) {
                Check.due(what + " shut " + gate, x.isOpen(gate), false);
                Check.due(what + " turns " + gate, x.turnsOf(gate), 0);
                Check.due(what + " head " + gate, x.headAt(gate), gate == 0 ? 0 : 8);
            }
            for (int place = 0; place <= n + 1; place++) {
                Check.due(what + " boats " + place, x.boatsAt(place), 0);
            }
            Check.due(what + " boats", x.boatCount(), 0);
            Check.due(what + " clock", x.clock(), 0);
            Check.due(what + " lost", x.lostWater(), 0);
            Check.due(what + " report", x.reportLength(), 0);
            Check.due(what + " water", x.poundWater(), 180);
            Check.due(what + " holds", x.isConsistent(), true);
        }
    }

    private static void levels(String what, LockStaircase x, int... levels) {
        for (int chamber = 0; chamber < levels.length; chamber++) {
            Check.due(what + " level " + chamber, x.levelOf(chamber), levels[chamber]);
        }
        Check.due(what + " holds", x.isConsistent(), true);
    }

    /** "from a chamber to the next one below if the upper one is above its floor and the lower one is below its top" */
    private static void floorsAndTops3() {
        LockStaircase x = Setup.brimful(3, 5, 50);
        levels("3 full", x, 5, 10, 15);
        Check.due("3 chamber 0 at its top takes none", Setup.let(x, 1, 5), 0);
        Check.due("3 chamber 1 at its top takes none", Setup.let(x, 2, 5), 0);
        Check.due("3 chamber 2 at its top takes none", Setup.let(x, 3, 5), 0);
        Setup.drain(x, 0);
        Check.due("3 four units down", Setup.let(x, 1, 1), 4);
        levels("3 four units down", x, 4, 6, 15);
        Check.due("3 four more", Setup.let(x, 2, 1), 4);
        levels("3 four more", x, 4, 10, 11);
        Check.due("3 one below its top takes one", Setup.let(x, 1, 5), 1);
        levels("3 one below its top", x, 5, 9, 11);
        Check.due("3 at its top takes none", Setup.let(x, 1, 5), 0);
        Setup.drain(x, 1);
        levels("3 empty below", x, 0, 5, 11);
        Check.due("3 one above its floor gives one", Setup.let(x, 2, 5), 1);
        levels("3 one above its floor", x, 0, 6, 10);
        Check.due("3 at its floor gives none", Setup.let(x, 2, 5), 0);
        Check.due("3 chamber 1 gives one", Setup.let(x, 1, 5), 1);
        Check.due("3 chamber 1 gives none", Setup.let(x, 1, 5), 0);
        levels("3 at last", x, 1, 5, 10);
    }

    /** "A unit flows through the sluice of gate 0 if the level of chamber 0 is above its floor" */
    private static void lowestChamber3() {
        LockStaircase x = Setup.brimful(1, 5, 50);
        Check.due("3 of five", Setup.let(x, 0, 1), 4);
        levels("3 one is left", x, 1);
        Check.due("3 of one", Setup.let(x, 0, 1), 1);
        levels("3 none is left", x, 0);
        Check.due("3 of none", Setup.let(x, 0, 5), 0);
        levels("3 none below the floor", x, 0);
        Check.due("3 lost", x.lostWater(), 5);
    }

    /** "The level of the lower reach is always 0" */
    private static void reachStaysAt0() {
        LockStaircase x = Setup.brimful(1, 40, 50);
        int lost = 0;
        for (int round = 0; round < 5; round++) {
            Check.due("level of the reach before", x.headAt(0), 40 - lost);
            lost += Setup.let(x, 0, 2);
            Check.due("level of the reach then", x.headAt(0), x.levelOf(0));
            Check.due("lost to it", x.lostWater(), 8 * (round + 1));
        }
        Check.due("head at the floor", x.headAt(0), 0);
    }

    /** Rains until the pound has this water, and looks at what follows from it. */
    private static void pound(LockStaircase x, int water, int depth, int level) {
        String what = "5 water " + water;
        int units = water - x.poundWater();
        Check.due(what + " spilled", units == 0 ? 0 : x.rain(units), 0);
        Check.due(what, x.poundWater(), water);
        Check.due(what + " depth", x.poundDepth(), depth);
        Check.due(what + " level", x.poundLevel(), level);
        Check.due(what + " head", x.headAt(1), level - x.levelOf(0));
        Check.due(what + " holds", x.isConsistent(), true);
    }

    /** "its water divided by the area and rounded down (the water can fall below 0, and the depth with it)" */
    private static void depthOfTheLargestPound5() {
        LockStaircase x = new LockStaircase(1, 40, 50);
        Setup.exhaust(x);
        pound(x, -951, -20, 0);
        pound(x, -950, -19, 1);
        pound(x, -949, -19, 1);
        pound(x, -901, -19, 1);
        pound(x, -900, -18, 2);
        pound(x, -51, -2, 18);
        pound(x, -50, -1, 19);
        pound(x, -49, -1, 19);
        pound(x, -1, -1, 19);
        pound(x, 0, 0, 20);
        pound(x, 1, 0, 20);
        pound(x, 49, 0, 20);
        pound(x, 50, 1, 21);
        pound(x, 51, 1, 21);
        pound(x, 949, 18, 38);
        pound(x, 950, 19, 39);
        pound(x, 951, 19, 39);
        pound(x, 999, 19, 39);
        pound(x, 1000, 20, 40);
    }

    private static void depthOfTheSmallestPound5() {
        LockStaircase x = new LockStaircase(1, 40, 1);
        Setup.exhaust(x);
        pound(x, -20, -20, 0);
        pound(x, -19, -19, 1);
        pound(x, -1, -1, 19);
        pound(x, 0, 0, 20);
        pound(x, 1, 1, 21);
        pound(x, 19, 19, 39);
        pound(x, 20, 20, 40);
    }

    private static void depthOfThreeUnitsALevel5() {
        LockStaircase x = new LockStaircase(1, 40, 3);
        Setup.exhaust(x);
        pound(x, -58, -20, 0);
        pound(x, -57, -19, 1);
        pound(x, -4, -2, 18);
        pound(x, -3, -1, 19);
        pound(x, -2, -1, 19);
        pound(x, -1, -1, 19);
        pound(x, 0, 0, 20);
        pound(x, 2, 0, 20);
        pound(x, 3, 1, 21);
        pound(x, 59, 19, 39);
        pound(x, 60, 20, 40);
    }

    /** "it cannot have more", "What is too much for the full pound is spilled." */
    private static void rainOnAFullPound7() {
        int[] areas = {1, 50};
        for (int area : areas) {
            LockStaircase x = new LockStaircase(1, 40, area);
            Check.due("7 one unit too much", x.rain(1), 1);
            Check.due("7 all too much", x.rain(999), 999);
            Check.due("7 still full", x.poundWater(), 20 * area);
            Check.due("7 four units less", Setup.let(x, 1, 1), 4);
            Check.due("7 up to one less", x.rain(3), 0);
            Check.due("7 one less", x.poundWater(), 20 * area - 1);
            Check.due("7 one of two is spilled", x.rain(2), 1);
            Check.due("7 four units less again", Setup.let(x, 1, 1), 4);
            Check.due("7 just full", x.rain(4), 0);
            Check.due("7 full again", x.poundWater(), 20 * area);
            Check.due("7 no room any more", x.rain(1), 1);
            Check.due("7 holds", x.isConsistent(), true);
        }
    }

    /** The largest rain on pounds that just take it or just do not. */
    private static void rainUpToTheBrim7() {
        int[] water = {-1, 0, 1, 2, 3};
        int[] spilled = {0, 0, 0, 1, 2};
        for (int row = 0; row < water.length; row++) {
            LockStaircase x = new LockStaircase(1, 40, 50);
            Setup.exhaust(x);
            x.rain(water[row] + 951);
            Check.due("7 before " + water[row], x.poundWater(), water[row]);
            Check.due("7 spilled from " + water[row], x.rain(999), spilled[row]);
            Check.due("7 after " + water[row], x.poundWater(), Math.min(1000, water[row] + 999));
            Check.due("7 holds", x.isConsistent(), true);
        }
        int[] rain = {38, 39, 40, 41, 42, 999};
        int[] overflow = {0, 0, 0, 1, 2, 959};
        for (int row = 0; row < rain.length; row++) {
            LockStaircase x = new LockStaircase(1, 40, 1);
            Setup.exhaust(x);
            Check.due("7 rain " + rain[row] + " from -20", x.rain(rain[row]), overflow[row]);
            Check.due("7 water after " + rain[row], x.poundWater(), Math.min(20, rain[row] - 20));
        }
    }

    /** "units, 1 to 999" */
    private static void unitsOfRain7() {
        LockStaircase x = new LockStaircase(1, 40, 50);
        Setup.exhaust(x);
        int[] wrong = {LEAST, LEAST + 1, -999, -1, 0, 1000, 1001, 65536, MOST - 1, MOST};
        for (int units : wrong) {
            Check.refusesArgument("7 rain(" + units + ")", x, () -> x.rain(units));
        }
        Check.due("7 rain(1)", x.rain(1), 0);
        Check.due("7 rain(2)", x.rain(2), 0);
        Check.due("7 water of both", x.poundWater(), -948);
        Check.due("7 rain(998)", x.rain(998), 0);
        Check.due("7 water of three", x.poundWater(), 50);
        Check.due("7 rain(999)", x.rain(999), 49);
        Check.due("7 water of four", x.poundWater(), 1000);
    }

    /** "Throws IllegalStateException if the highest gate is open", and before it the one for the units */
    private static void rainAtAnOpenGate7() {
        for (int n = 1; n <= 6; n++) {
            LockStaircase full = Setup.levelled(n, 5, 50, n);
            rainAtTheHighestGate(full, n);
            Check.due("7 rain on the full pound", full.rain(1), 1);
            LockStaircase low = new LockStaircase(n, 5, 50);
            Setup.let(low, n, 1);
            rainAtTheHighestGate(low, n);
            Check.due("7 water is wanting", low.poundWater(), 996);
            Check.due("7 rain on the pound", low.rain(5), 1);
            LockStaircase y = Setup.levelled(n, 5, 50, n - 1);
            Check.due("7 the next gate below open", y.open(n - 1), 1);
            Check.due("7 rain at the next gate below", y.rain(1), 1);
        }
    }

    private static void rainAtTheHighestGate(LockStaircase x, int gate) {
        Check.due("7 open", x.open(gate), 1);
        Check.refusesState("7 rain(1) at the open gate", x, () -> x.rain(1));
        Check.refusesState("7 rain(999) at the open gate", x, () -> x.rain(999));
        Check.refusesArgument("7 rain(0) at the open gate", x, () -> x.rain(0));
        Check.refusesArgument("7 rain(1000) at the open gate", x, () -> x.rain(1000));
        Check.refusesArgument("7 rain(least) at the open gate", x, () -> x.rain(LEAST));
        Check.refusesArgument("7 rain(most) at the open gate", x, () -> x.rain(MOST));
        x.shut(gate);
    }

    /** "the units that have flowed to the lower reach": through gate 0 alone, and not what is spilled */
    private static void lostWater30() {
        LockStaircase x = new LockStaircase(2, 5, 50);
        Check.due("30 spilled", x.rain(999), 999);
        Check.due("30 none is lost by rain", x.lostWater(), 0);
        Check.due("30 into chamber 1", Setup.let(x, 2, 1), 4);
        Check.due("30 none is lost from the pound", x.lostWater(), 0);
        Check.due("30 into chamber 0", Setup.let(x, 1, 1), 4);
        Check.due("30 none is lost between chambers", x.lostWater(), 0);
        Check.due("30 out of chamber 0", Setup.let(x, 0, 1), 4);
        Check.due("30 four are lost", x.lostWater(), 4);
        Check.due("30 out of an empty chamber", Setup.let(x, 0, 5), 0);
        Check.due("30 no more are lost", x.lostWater(), 4);
    }

    /** "the sum of the levels of all chambers divided by their number, both converted to double" */
    private static void meanLevel31() {
        Check.due("31 the least", new LockStaircase(1, 5, 1).meanLevel(), 0.0);
        Check.due("31 six at their floors", new LockStaircase(6, 40, 50).meanLevel(), 100.0);
        Check.due("31 six at their tops", Setup.brimful(6, 40, 50).meanLevel(), 140.0);
        Check.due("31 one at its top", Setup.brimful(1, 40, 50).meanLevel(), 40.0);
        Check.due("31 half a level", new LockStaircase(2, 5, 1).meanLevel(), 2.5);
        LockStaircase x = new LockStaircase(3, 5, 50);
        Setup.let(x, 3, 1);
        Check.due("31 a third of a level", x.meanLevel(), 19.0 / 3.0);
        LockStaircase y = new LockStaircase(6, 5, 50);
        Setup.let(y, 6, 1);
        Check.due("31 a sixth of a level", y.meanLevel(), 79.0 / 6.0);
    }

    /** "the water of the pound divided by that of the full pound, both converted to float" */
    private static void poundPart32() {
        LockStaircase x = new LockStaircase(1, 40, 3);
        Check.due("32 full", x.poundPart(), 1.0f);
        Setup.exhaust(x);
        Check.due("32 least", x.poundPart(), -58.0f / 60.0f);
        x.rain(57);
        Check.due("32 one below 0", x.poundPart(), -1.0f / 60.0f);
        x.rain(1);
        Check.due("32 none", x.poundPart(), 0.0f);
        x.rain(1);
        Check.due("32 one", x.poundPart(), 1.0f / 60.0f);
        x.rain(58);
        Check.due("32 one less than full", x.poundPart(), 59.0f / 60.0f);
        x.rain(1);
        Check.due("32 full again", x.poundPart(), 1.0f);
    }

    /** "Returns true (always)." */
    private static void isConsistent33() {
        for (int n = 1; n <= 6; n++) {
            LockStaircase x = Setup.brimful(n, 40, 1);
            Check.due("33 at the tops", x.isConsistent(), true);
            Setup.exhaust(x);
            Check.due("33 at the floors", x.isConsistent(), true);
            for (int gate = 0; gate <= n; gate++) {
                LockStaircase y = Setup.levelled(n, 5, 50, gate);
                y.open(gate);
                Check.due("33 an open gate", y.isConsistent(), true);
            }
        }
        LockStaircase z = Setup.withBoatInChamber0(1, 5, 1, 60, 1);
        Check.due("33 60 in a chamber", z.isConsistent(), true);
        z.wind(0, 5);
        z.wind(1, 5);
        z.pass(60);
        Check.due("33 sluices up", z.isConsistent(), true);
    }

    /** "An object is used for at most 512 calls after it has been made": the answers of the last one */
    private static void lastOf512Calls() {
        LockStaircase clock = new LockStaircase(6, 40, 50);
        LockStaircase rain = new LockStaircase(6, 40, 50);
        LockStaircase taken = new LockStaircase(1, 40, 1);
        Model model = new Model(1, 40, 1);
        taken.addBoat(60, 1, false);
        model.boats.add(new int[] {60, 1, 0});
        int spilled = 0;
        for (int call = 1; call <= 511; call++) {
            clock.pass(60);
            spilled += rain.rain(999);
            if (call > 1) {
                taken.take(0, call % 2 == 0);
                model.take(0, call % 2 == 0);
            }
        }
        Check.due("the clock after 511 calls", clock.clock(), 511 * 60);
        Check.due("all that was spilled", spilled, 511 * 999);
        Check.due("the pound after 511 calls", rain.poundWater(), 1000);
        Check.due("the minutes after 510 takings", taken.clock(), model.clock);
    }
}
