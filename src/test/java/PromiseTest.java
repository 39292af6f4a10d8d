/** Each promise by answers worked out by hand from the document: ordinary inputs, edges and wrong inputs. */
public final class PromiseTest {
    private static final Class<IndexOutOfBoundsException> INDEX = IndexOutOfBoundsException.class;
    private static final Class<IllegalArgumentException> ARGUMENT = IllegalArgumentException.class;
    private static final Class<IllegalStateException> STATE = IllegalStateException.class;
    private static final int LEAST = Integer.MIN_VALUE;
    private static final int MOST = Integer.MAX_VALUE;

    public static void main(String[] args) {
        newObject1();
        chambers2();
        levelOf3();
        pound4to6();
        rain7();
        headAt8();
        isOpen9();
        openObstacle10();
        open11();
        shut12();
        turnsOf13();
        wind14();
        pass15();
        clock16();
        addBoat17();
        boats18to21();
        moveObstacle22();
        move23();
        take24();
        takeMinutes24();
        report25to27();
        forecasts28and29();
        lostWater30();
        meanLevel31();
        poundPart32();
        isConsistent33();
        example1();
        example2();
        example3();
        example4();
        Check.finish("PromiseTest");
    }

    private static LockStaircase ladder(int chambers, int lift, int area) {
        return new LockStaircase(chambers, lift, area);
    }

    /** Two chambers and a highest gate that has been levelled and opened at level 9. */
    private static LockStaircase topOpen() {
        LockStaircase x = ladder(2, 5, 50);
        x.wind(2, 1);
        x.pass(2);
        x.wind(2, 0);
        x.open(2);
        return x;
    }

    private static void newObject1() {
        Check.due("1 new", Check.picture(ladder(3, 10, 10)),
                "chambers=3 pound=200/20/30 clock=0 lost=0 mean=10.0 part=1.0 C0=0/60 C1=10/60 C2=20/60"
                + " G0=0/false/0/0 G1=10/false/0/3 G2=10/false/0/3 G3=10/false/0/3"
                + " P0=0 P1=0 P2=0 P3=0 P4=0 report= holds=true");
        size("1 least", 1, 5, 1, 1, 5, 1);
        size("1 most", 6, 40, 50, 6, 40, 50);
        size("1 below", 0, 4, 0, 1, 5, 1);
        size("1 above", 7, 41, 51, 6, 40, 50);
        size("1 far below", LEAST, LEAST, LEAST, 1, 5, 1);
        size("1 far above", MOST, MOST, MOST, 6, 40, 50);
        size("1 between", 2, 6, 49, 2, 6, 49);
    }

    private static void size(String what, int chambers, int lift, int area, int n, int l, int a) {
        LockStaircase x = ladder(chambers, lift, area);
        Check.due(what + " chambers", x.chambers(), n);
        Check.due(what + " level", x.poundLevel(), n * l);
        Check.due(what + " floor", x.levelOf(n - 1), (n - 1) * l);
        Check.due(what + " water", x.poundWater(), 20 * a);
        Check.due(what + " boats", x.boatCount(), 0);
    }

    private static void chambers2() {
        for (int n = 1; n <= 6; n++) {
            Check.due("2 chambers", ladder(n, 10, 10).chambers(), n);
        }
    }

    private static void levelOf3() {
        LockStaircase x = ladder(3, 10, 10);
        x.wind(3, 1);
        x.pass(1);
        Check.due("3 levelOf(0)", x.levelOf(0), 0);
        Check.due("3 levelOf(1)", x.levelOf(1), 10);
        Check.due("3 levelOf(2)", x.levelOf(2), 24);
        Check.refuses("3 levelOf(-1)", x, INDEX, () -> x.levelOf(-1));
        Check.refuses("3 levelOf(3)", x, INDEX, () -> x.levelOf(3));
        Check.refuses("3 levelOf(least)", x, INDEX, () -> x.levelOf(LEAST));
        Check.refuses("3 levelOf(most)", x, INDEX, () -> x.levelOf(MOST));
    }

    private static void pound(String what, LockStaircase x, int water, int depth, int level) {
        Check.due(what + " water", x.poundWater(), water);
        Check.due(what + " depth", x.poundDepth(), depth);
        Check.due(what + " level", x.poundLevel(), level);
    }

    /** Fills the one chamber from the pound and empties it again. */
    private static int draw(LockStaircase x) {
        x.wind(0, 0);
        x.wind(1, 5);
        int units = x.pass(60);
        x.wind(1, 0);
        x.wind(0, 5);
        x.pass(60);
        return units;
    }

    private static void pound4to6() {
        LockStaircase x = ladder(1, 40, 3);
        pound("4-6 full", x, 60, 20, 40);
        Check.due("4-6 first", draw(x), 30);
        pound("4-6 first", x, 30, 10, 30);
        Check.due("4-6 second", draw(x), 22);
        pound("4-6 rounded down", x, 8, 2, 22);
        Check.due("4-6 third", draw(x), 17);
        pound("4-6 below 0", x, -9, -3, 17);
        Check.due("4-6 fourth", draw(x), 13);
        pound("4-6 below 0 rounded down", x, -22, -8, 12);
    }

    private static void rain7() {
        LockStaircase x = ladder(1, 20, 50);
        Check.due("7 rain on a full pound", x.rain(1), 1);
        Check.due("7 rain(999) on a full pound", x.rain(999), 999);
        x.wind(1, 5);
        x.pass(1);
        x.wind(1, 0);
        pound("7 before", x, 981, 19, 19);
        Check.due("7 rain(18)", x.rain(18), 0);
        Check.due("7 water", x.poundWater(), 999);
        Check.due("7 rain(6)", x.rain(6), 5);
        pound("7 full again", x, 1000, 20, 20);
        Check.refuses("7 rain(0)", x, ARGUMENT, () -> x.rain(0));
        Check.refuses("7 rain(1000)", x, ARGUMENT, () -> x.rain(1000));
        Check.refuses("7 rain(-1)", x, ARGUMENT, () -> x.rain(-1));
        Check.refuses("7 rain(most)", x, ARGUMENT, () -> x.rain(MOST));
        Check.refuses("7 rain(least)", x, ARGUMENT, () -> x.rain(LEAST));
        LockStaircase y = topOpen();
        Check.refuses("7 rain at an open gate", y, STATE, () -> y.rain(1));
        Check.refuses("7 rain(0) at an open gate", y, ARGUMENT, () -> y.rain(0));
        y.shut(2);
        Check.due("7 gate 0 opened", y.open(0), 1);
        Check.due("7 rain at another open gate", y.rain(5), 1);
        Check.due("7 lost", y.lostWater(), 0);
    }

    private static void headAt8() {
        LockStaircase x = ladder(2, 10, 3);
        Check.due("8 headAt(0)", x.headAt(0), 0);
        Check.due("8 headAt(1)", x.headAt(1), 10);
        Check.due("8 headAt(2)", x.headAt(2), 10);
        x.wind(1, 5);
        x.wind(2, 2);
        x.pass(2);
        Check.due("8 headAt(0) then", x.headAt(0), 7);
        Check.due("8 headAt(1) then", x.headAt(1), 9);
        Check.due("8 headAt(2) below 0", x.headAt(2), -1);
        Check.refuses("8 headAt(-1)", x, INDEX, () -> x.headAt(-1));
        Check.refuses("8 headAt(3)", x, INDEX, () -> x.headAt(3));
        Check.refuses("8 headAt(most)", x, INDEX, () -> x.headAt(MOST));
        Check.refuses("8 headAt(least)", x, INDEX, () -> x.headAt(LEAST));
    }

    private static void isOpen9() {
        LockStaircase x = topOpen();
        Check.due("9 isOpen(0)", x.isOpen(0), false);
        Check.due("9 isOpen(1)", x.isOpen(1), false);
        Check.due("9 isOpen(2)", x.isOpen(2), true);
        x.shut(2);
        Check.due("9 isOpen(2) then", x.isOpen(2), false);
        Check.refuses("9 isOpen(-1)", x, INDEX, () -> x.isOpen(-1));
        Check.refuses("9 isOpen(3)", x, INDEX, () -> x.isOpen(3));
        Check.refuses("9 isOpen(most)", x, INDEX, () -> x.isOpen(MOST));
    }

    private static void openObstacle10() {
        LockStaircase x = ladder(3, 10, 10);
        Check.due("10 no head", x.openObstacle(0), LockStaircase.CAN_OPEN);
        Check.due("10 head", x.openObstacle(1), LockStaircase.HAS_HEAD);
        x.wind(0, 1);
        Check.due("10 own sluice", x.openObstacle(0), LockStaircase.SLUICE_UP);
        Check.due("10 sluice below, and a head", x.openObstacle(1), LockStaircase.SLUICE_UP);
        Check.due("10 sluice two below", x.openObstacle(2), LockStaircase.HAS_HEAD);
        x.wind(0, 0);
        x.wind(1, 1);
        Check.due("10 sluice above", x.openObstacle(0), LockStaircase.SLUICE_UP);
        x.wind(1, 0);
        x.wind(2, 1);
        Check.due("10 sluice two above", x.openObstacle(0), LockStaircase.CAN_OPEN);
        Check.due("10 sluice below the highest gate", x.openObstacle(3), LockStaircase.SLUICE_UP);
        x.open(0);
        Check.due("10 open", x.openObstacle(0), LockStaircase.IS_OPEN);
        Check.refuses("10 openObstacle(-1)", x, INDEX, () -> x.openObstacle(-1));
        Check.refuses("10 openObstacle(4)", x, INDEX, () -> x.openObstacle(4));
        LockStaircase y = ladder(2, 10, 3);
        y.wind(1, 5);
        y.wind(2, 2);
        y.pass(2);
        y.wind(1, 0);
        y.wind(2, 0);
        Check.due("10 head below 0", y.headAt(2), -1);
        Check.due("10 head below 0", y.openObstacle(2), LockStaircase.HAS_HEAD);
    }

    private static void open11() {
        LockStaircase x = topOpen();
        Check.due("11 a second gate", x.open(0), 2);
        Check.refuses("11 an open gate", x, STATE, () -> x.open(0));
        Check.refuses("11 a head", x, STATE, () -> x.open(1));
        Check.refuses("11 open(-1)", x, INDEX, () -> x.open(-1));
        Check.refuses("11 open(3)", x, INDEX, () -> x.open(3));
        x.shut(2);
        x.shut(0);
        x.wind(1, 1);
        Check.refuses("11 a sluice", x, STATE, () -> x.open(0));
        x.wind(1, 0);
        Check.due("11 open(0) again", x.open(0), 1);
        LockStaircase y = ladder(6, 5, 50);
        y.wind(6, 1);
        Check.due("11 the highest sluice of six", y.turnsOf(6), 1);
        Check.due("11 its units", y.pass(2), 4);
        y.wind(6, 0);
        Check.due("11 the highest gate of six", y.open(6), 1);
        Check.due("11 is open", y.isOpen(6), true);
    }

    private static void shut12() {
        LockStaircase x = topOpen();
        x.open(0);
        Check.due("12 shut(2)", x.shut(2), true);
        Check.due("12 shut(2) again", x.shut(2), false);
        Check.due("12 shut(1)", x.shut(1), false);
        Check.due("12 gate 0 stays open", x.isOpen(0), true);
        Check.refuses("12 shut(-1)", x, INDEX, () -> x.shut(-1));
        Check.refuses("12 shut(3)", x, INDEX, () -> x.shut(3));
    }

    private static void turnsOf13() {
        LockStaircase x = ladder(2, 5, 50);
        x.wind(1, 3);
        Check.due("13 turnsOf(0)", x.turnsOf(0), 0);
        Check.due("13 turnsOf(1)", x.turnsOf(1), 3);
        Check.due("13 turnsOf(2)", x.turnsOf(2), 0);
        Check.refuses("13 turnsOf(-1)", x, INDEX, () -> x.turnsOf(-1));
        Check.refuses("13 turnsOf(3)", x, INDEX, () -> x.turnsOf(3));
    }

    private static void wind14() {
        LockStaircase x = ladder(3, 5, 50);
        Check.due("14 wind(1, 5)", x.wind(1, 5), 0);
        Check.due("14 wind(1, 2)", x.wind(1, 2), 5);
        Check.due("14 wind(1, 0)", x.wind(1, 0), 2);
        Check.refuses("14 wind(1, -1)", x, ARGUMENT, () -> x.wind(1, -1));
        Check.refuses("14 wind(1, 6)", x, ARGUMENT, () -> x.wind(1, 6));
        Check.refuses("14 wind(-1, 6)", x, INDEX, () -> x.wind(-1, 6));
        Check.refuses("14 wind(4, 0)", x, INDEX, () -> x.wind(4, 0));
        x.open(0);
        Check.refuses("14 own gate open", x, STATE, () -> x.wind(0, 1));
        Check.refuses("14 gate below open", x, STATE, () -> x.wind(1, 5));
        Check.refuses("14 too many turns at an open gate", x, ARGUMENT, () -> x.wind(0, 6));
        Check.due("14 no turns at an open gate", x.wind(0, 0), 0);
        Check.due("14 gate two below open", x.wind(2, 1), 0);
        LockStaircase y = topOpen();
        Check.refuses("14 gate above open", y, STATE, () -> y.wind(1, 1));
        Check.due("14 gate two above open", y.wind(0, 1), 0);
    }

    private static void pass15() {
        LockStaircase x = ladder(2, 5, 50);
        x.wind(0, 5);
        x.wind(1, 5);
        x.wind(2, 5);
        Check.due("15 first minute", x.pass(1), 4);
        Check.due("15 second minute, lower gates first", x.pass(1), 8);
        Check.due("15 third minute", x.pass(1), 12);
        Check.due("15 two minutes more", x.pass(2), 24);
        Check.due("15 lost", x.lostWater(), 12);
        Check.due("15 water", x.poundWater(), 980);
        Check.due("15 clock", x.clock(), 5);
        LockStaircase y = ladder(1, 40, 50);
        for (int turns = 0; turns <= 3; turns++) {
            y.wind(1, turns);
            Check.due("15 units of " + turns + " turns", y.pass(1), 4 * turns);
        }
        y.wind(1, 0);
        Check.due("15 nothing flows", y.pass(60), 0);
        Check.due("15 clock of nothing", y.clock(), 64);
        Check.refuses("15 pass(0)", y, ARGUMENT, () -> y.pass(0));
        Check.refuses("15 pass(61)", y, ARGUMENT, () -> y.pass(61));
        Check.refuses("15 pass(-1)", y, ARGUMENT, () -> y.pass(-1));
        Check.refuses("15 pass(most)", y, ARGUMENT, () -> y.pass(MOST));
        LockStaircase z = ladder(2, 5, 50);
        z.wind(1, 5);
        z.wind(2, 5);
        Check.due("15 until both are full", z.pass(60), 14);
        Check.due("15 full chamber 0", z.levelOf(0), 5);
        Check.due("15 chamber 1", z.levelOf(1), 9);
    }

    private static void clock16() {
        LockStaircase x = ladder(1, 20, 50);
        Check.due("16 at first", x.clock(), 0);
        x.pass(7);
        x.rain(3);
        Check.due("16 after pass", x.clock(), 7);
        x.addBoat(10, 1, false);
        x.take(0, true);
        Check.due("16 after a taking", x.clock(), 8);
    }

    private static void addBoat17() {
        LockStaircase x = ladder(2, 10, 3);
        Check.due("17 least", x.addBoat(5, 1, false), 0);
        Check.due("17 most", x.addBoat(60, 19, true), 1);
        Check.refuses("17 length 4", x, ARGUMENT, () -> x.addBoat(4, 1, false));
        Check.refuses("17 length 61", x, ARGUMENT, () -> x.addBoat(61, 1, false));
        Check.refuses("17 draught 0", x, ARGUMENT, () -> x.addBoat(5, 0, false));
        Check.refuses("17 draught 20", x, ARGUMENT, () -> x.addBoat(5, 20, false));
        Check.refuses("17 far below", x, ARGUMENT, () -> x.addBoat(LEAST, LEAST, true));
        x.wind(2, 5);
        x.pass(1);
        pound("17 shallow", x, 53, 17, 17);
        Check.refuses("17 too deep a boat", x, STATE, () -> x.addBoat(5, 18, true));
        Check.due("17 draught as deep as the pound", x.addBoat(5, 17, true), 2);
        Check.due("17 a deep boat below", x.addBoat(5, 19, false), 3);
        for (int boat = 4; boat < 10; boat++) {
            Check.due("17 another", x.addBoat(60, 1, boat % 2 == 0), boat);
        }
        Check.refuses("17 an eleventh", x, STATE, () -> x.addBoat(5, 1, false));
        Check.refuses("17 an eleventh, too long", x, ARGUMENT, () -> x.addBoat(61, 1, false));
        Check.due("17 places", x.boatsAt(0) * 100 + x.boatsAt(3), 505);
    }

    private static void boats18to21() {
        LockStaircase x = ladder(2, 10, 3);
        Check.due("18 none", x.boatCount(), 0);
        x.addBoat(20, 2, false);
        x.addBoat(25, 2, false);
        x.addBoat(30, 2, true);
        Check.due("18 three", x.boatCount(), 3);
        x.open(0);
        x.move(0, true);
        x.move(1, true);
        Check.due("19 placeOf(0)", x.placeOf(0), 1);
        Check.due("19 placeOf(1)", x.placeOf(1), 1);
        Check.due("19 placeOf(2)", x.placeOf(2), 3);
        Check.refuses("19 placeOf(-1)", x, INDEX, () -> x.placeOf(-1));
        Check.refuses("19 placeOf(3)", x, INDEX, () -> x.placeOf(3));
        Check.refuses("19 placeOf(10)", x, INDEX, () -> x.placeOf(10));
        Check.due("20 boatsAt(0)", x.boatsAt(0), 0);
        Check.due("20 boatsAt(1)", x.boatsAt(1), 2);
        Check.due("20 boatsAt(2)", x.boatsAt(2), 0);
        Check.due("20 boatsAt(3)", x.boatsAt(3), 1);
        Check.refuses("20 boatsAt(-1)", x, INDEX, () -> x.boatsAt(-1));
        Check.refuses("20 boatsAt(4)", x, INDEX, () -> x.boatsAt(4));
        Check.due("21 freeLength(0)", x.freeLength(0), 15);
        Check.due("21 freeLength(1)", x.freeLength(1), 60);
        Check.refuses("21 freeLength(-1)", x, INDEX, () -> x.freeLength(-1));
        Check.refuses("21 freeLength(2)", x, INDEX, () -> x.freeLength(2));
    }

    private static void moveObstacle22() {
        LockStaircase x = ladder(1, 5, 1);
        x.addBoat(40, 2, false);
        x.addBoat(21, 2, false);
        x.addBoat(20, 2, false);
        x.addBoat(60, 19, true);
        Check.due("22 shut", x.moveObstacle(0, true), LockStaircase.GATE_SHUT);
        Check.due("22 below the lowest", x.moveObstacle(0, false), LockStaircase.NO_WAY);
        Check.due("22 above the highest", x.moveObstacle(3, true), LockStaircase.NO_WAY);
        Check.due("22 shut above", x.moveObstacle(3, false), LockStaircase.GATE_SHUT);
        x.open(0);
        Check.due("22 free", x.moveObstacle(0, true), LockStaircase.CAN_MOVE);
        x.move(0, true);
        Check.due("22 too long together", x.moveObstacle(1, true), LockStaircase.NO_ROOM);
        Check.due("22 60 together", x.moveObstacle(2, true), LockStaircase.CAN_MOVE);
        Check.due("22 back to the reach", x.moveObstacle(0, false), LockStaircase.CAN_MOVE);
        Check.due("22 at the shut gate above", x.moveObstacle(0, true), LockStaircase.GATE_SHUT);
        x.shut(0);
        Check.due("22 shut, and no room", x.moveObstacle(1, true), LockStaircase.GATE_SHUT);
        Check.refuses("22 moveObstacle(-1)", x, INDEX, () -> x.moveObstacle(-1, true));
        Check.refuses("22 moveObstacle(4)", x, INDEX, () -> x.moveObstacle(4, true));
        shallow22();
    }

    /** The pound stands at level 3 over a depth of 18 when its gate is open. */
    private static void shallow22() {
        LockStaircase x = ladder(1, 5, 1);
        x.addBoat(10, 18, false);
        x.addBoat(10, 19, false);
        x.addBoat(51, 1, true);
        x.open(0);
        x.move(0, true);
        x.move(1, true);
        x.shut(0);
        x.wind(1, 5);
        Check.due("22 units", x.pass(1), 3);
        x.wind(1, 0);
        x.wind(0, 1);
        x.pass(1);
        x.wind(0, 0);
        x.wind(1, 5);
        x.pass(1);
        x.wind(1, 0);
        x.rain(2);
        Check.due("22 head", x.headAt(1), 2);
        Check.due("22 shut and shallow", x.moveObstacle(1, true), LockStaircase.GATE_SHUT);
        x.wind(1, 1);
        x.pass(1);
        x.wind(1, 0);
        pound("22 shallow", x, 17, 17, 2);
        Check.due("22 open", x.open(1), 1);
        Check.due("22 draught 18", x.moveObstacle(0, true), LockStaircase.TOO_SHALLOW);
        Check.due("22 draught 19", x.moveObstacle(1, true), LockStaircase.TOO_SHALLOW);
        Check.due("22 51 beside 20", x.moveObstacle(2, false), LockStaircase.NO_ROOM);
        Check.refuses("23 too shallow", x, STATE, () -> x.move(0, true));
    }

    private static void move23() {
        LockStaircase x = topOpen();
        x.addBoat(30, 3, true);
        x.addBoat(31, 3, true);
        x.addBoat(30, 19, true);
        Check.due("23 down", x.move(0, false), 2);
        Check.refuses("23 no room", x, STATE, () -> x.move(1, false));
        Check.due("23 60 together", x.move(2, false), 2);
        Check.due("23 a draught of 19 at a depth of 19", x.move(2, true), 3);
        Check.due("23 up", x.move(0, true), 3);
        Check.refuses("23 no way", x, STATE, () -> x.move(0, true));
        x.move(0, false);
        Check.refuses("23 shut", x, STATE, () -> x.move(0, false));
        Check.refuses("23 move(-1)", x, INDEX, () -> x.move(-1, true));
        Check.refuses("23 move(3)", x, INDEX, () -> x.move(3, false));
        Check.due("23 clock", x.clock(), 2);
    }

    private static void take24() {
        LockStaircase x = ladder(1, 20, 50);
        x.addBoat(10, 5, false);
        Check.due("24 up", x.take(0, true), 2);
        Check.due("24 level", x.levelOf(0), 19);
        pound("24 up", x, 981, 19, 19);
        Check.due("24 down", x.take(0, false), 0);
        Check.due("24 lost", x.lostWater(), 19);
        Check.due("24 clock", x.clock(), 2);
        Check.due("24 open(0)", x.open(0), 1);
        x.wind(0, 0);
        Check.due("24 is there already", x.take(0, false), 0);
        Check.due("24 the gate is shut", x.isOpen(0), false);
        Check.due("24 clock stays", x.clock(), 2);
        x.wind(0, 4);
        x.wind(1, 3);
        Check.due("24 is there again", x.take(0, false), 0);
        Check.due("24 sluices are down", x.turnsOf(0) + x.turnsOf(1), 0);
        Check.refuses("24 take(-1)", x, INDEX, () -> x.take(-1, true));
        Check.refuses("24 take(1)", x, INDEX, () -> x.take(1, false));
        failures24();
    }

    private static void failures24() {
        LockStaircase x = ladder(1, 5, 1);
        x.addBoat(60, 17, false);
        x.addBoat(60, 18, false);
        Check.due("24 a draught of 17 at a depth of 17", x.take(0, true), 2);
        Check.due("24 clock", x.clock(), 2);
        Check.due("24 a draught of 18", x.take(1, true), 1);
        Check.due("24 report", Check.report(x), "6:1 4:-1");
        Check.due("24 all gates are shut", x.isOpen(0) || x.isOpen(1), false);
        Check.due("24 no room beside it", x.take(0, false), 2);
        Check.due("24 report of no room", Check.report(x), "6:1 3:-1");
        Check.due("24 out of the way", x.take(1, false), 0);
        Check.due("24 report of none", x.reportLength(), 0);
        Check.due("24 now it goes", x.take(0, false), 0);
    }

    /** Chamber 1 full, chamber 0 half full, so that a minute in which nothing flows is met on the way down. */
    private static LockStaircase halfFull() {
        LockStaircase x = ladder(2, 40, 50);
        x.wind(2, 5);
        x.pass(2);
        x.rain(39);
        x.pass(1);
        x.rain(1);
        x.wind(2, 0);
        x.wind(1, 5);
        x.pass(1);
        x.wind(1, 0);
        x.wind(2, 5);
        x.pass(1);
        x.rain(19);
        x.pass(1);
        x.rain(1);
        x.wind(2, 0);
        return x;
    }

    private static void takeMinutes24() {
        LockStaircase x = halfFull();
        Check.due("24 chamber 1 is full", x.levelOf(1), 80);
        Check.due("24 chamber 0 is half full", x.levelOf(0), 20);
        pound("24 full", x, 1000, 20, 80);
        x.addBoat(10, 5, true);
        int before = x.clock();
        Check.due("24 down", x.take(0, false), 0);
        // Chamber 1 is lowered in 1 + 1 (empty) + 2 + 1 minutes, chamber 0 raised in 1 + 1 and lowered in 2.
        Check.due("24 minutes", x.clock() - before, 9);
        Check.due("24 water", x.poundWater(), 980);
        Check.due("24 lost", x.lostWater(), 80);
        Check.due("24 level 0", x.levelOf(0), 0);
        Check.due("24 level 1", x.levelOf(1), 40);
    }

    private static void report25to27() {
        LockStaircase x = ladder(3, 10, 10);
        Check.due("25 at first", x.reportLength(), 0);
        Check.due("26 at first", x.reportKind(0), LockStaircase.NONE);
        Check.due("27 at first", x.reportNumber(0), LockStaircase.NONE);
        x.addBoat(20, 3, false);
        x.addBoat(50, 3, false);
        x.addBoat(5, 1, true);
        x.take(0, true);
        Check.due("25 low pound", x.reportLength(), 5);
        int[] kinds = {-1, 6, 7, 7, 7, 5, -1};
        int[] numbers = {-1, 1, 0, 1, 2, -1, -1};
        for (int entry = -1; entry <= 5; entry++) {
            Check.due("26 kind " + entry, x.reportKind(entry), kinds[entry + 1]);
            Check.due("27 number " + entry, x.reportNumber(entry), numbers[entry + 1]);
        }
        Check.due("26 far", x.reportKind(MOST) + x.reportKind(LEAST), -2);
        Check.due("27 far", x.reportNumber(MOST) + x.reportNumber(LEAST), -2);
        x.minutesFor(1, true);
        x.waterFor(1, true);
        Check.refuses("25 take(9) keeps the report", x, INDEX, () -> x.take(9, true));
        Check.due("25 still", Check.report(x), "6:1 7:0 7:1 7:2 5:-1");
        x.take(1, true);
        Check.due("25 no room", Check.report(x), "6:0 3:-1");
        Check.due("26 behind", x.reportKind(2), -1);
        x.take(2, true);
        Check.due("25 a taking that did not fail", x.reportLength(), 0);
        Check.due("26 a taking that did not fail", x.reportKind(0), -1);
        Check.due("27 a taking that did not fail", x.reportNumber(0), -1);
        higher25();
    }

    /** The boat stands higher, so the report tells of fewer chambers. */
    private static void higher25() {
        LockStaircase x = ladder(3, 10, 20);
        x.addBoat(20, 3, false);
        x.take(0, true);
        Check.due("25 from below", Check.report(x), "6:1 7:0 7:1 7:2 5:-1");
        x.rain(99);
        x.take(0, true);
        Check.due("25 from chamber 1", Check.report(x), "6:2 7:1 7:2 5:-1");
        Check.due("25 place", x.placeOf(0), 2);
    }

    private static void forecasts28and29() {
        LockStaircase x = halfFull();
        x.addBoat(10, 5, true);
        x.addBoat(10, 5, false);
        x.wind(0, 1);
        String before = Check.picture(x);
        Check.due("28 down", x.minutesFor(0, false), 9);
        Check.due("29 down", x.waterFor(0, false), 20);
        Check.due("28 is there", x.minutesFor(0, true), 0);
        Check.due("29 is there", x.waterFor(0, true), 0);
        Check.due("28 again", x.minutesFor(0, false), 9);
        Check.due("28 29 change nothing", Check.picture(x), before);
        Check.refuses("28 minutesFor(-1)", x, INDEX, () -> x.minutesFor(-1, true));
        Check.refuses("28 minutesFor(2)", x, INDEX, () -> x.minutesFor(2, true));
        Check.refuses("29 waterFor(-1)", x, INDEX, () -> x.waterFor(-1, true));
        Check.refuses("29 waterFor(2)", x, INDEX, () -> x.waterFor(2, true));
        LockStaircase y = ladder(1, 5, 1);
        y.addBoat(60, 19, false);
        Check.due("28 too shallow", y.minutesFor(0, true), -1);
        Check.due("29 up to the failure", y.waterFor(0, true), 3);
        LockStaircase z = ladder(1, 20, 50);
        z.addBoat(10, 5, false);
        Check.due("29 asked first", z.waterFor(0, true), 19);
        Check.due("28 asked then", z.minutesFor(0, true), 1);
        y.addBoat(60, 19, true);
        y.open(0);
        y.move(0, true);
        Check.due("28 no room", y.minutesFor(1, false), -1);
        Check.due("28 the open gate is left open", y.isOpen(0), true);
    }

    private static void lostWater30() {
        LockStaircase x = ladder(1, 5, 1);
        x.rain(50);
        Check.due("30 spilled water is not lost", x.lostWater(), 0);
        x.wind(1, 1);
        x.pass(1);
        Check.due("30 none yet", x.lostWater(), 0);
        x.wind(0, 1);
        x.pass(1);
        Check.due("30 three", x.lostWater(), 3);
    }

    private static void meanLevel31() {
        Check.due("31 one", ladder(1, 40, 1).meanLevel(), 0.0);
        LockStaircase one = ladder(1, 40, 50);
        one.wind(1, 2);
        one.pass(1);
        Check.due("31 one with water", one.meanLevel(), 8.0);
        Check.due("31 two", ladder(2, 5, 1).meanLevel(), 2.5);
        LockStaircase x = ladder(3, 10, 10);
        x.wind(3, 1);
        x.pass(1);
        Check.due("31 three", x.meanLevel(), 34.0 / 3.0);
    }

    private static void poundPart32() {
        LockStaircase x = ladder(1, 40, 3);
        Check.due("32 full", x.poundPart(), 1.0f);
        x.wind(1, 1);
        x.pass(1);
        Check.due("32 less", x.poundPart(), 56.0f / 60.0f);
        x.pass(20);
        draw(x);
        draw(x);
        draw(x);
        draw(x);
        Check.due("32 below 0", x.poundPart(), (float) x.poundWater() / 60.0f);
        Check.due("32 below 0", x.poundPart() < 0.0f, true);
    }

    private static void isConsistent33() {
        LockStaircase x = topOpen();
        Check.due("33 open gate", x.isConsistent(), true);
        x.shut(2);
        x.rain(999);
        Check.due("33 rain", x.isConsistent(), true);
        x.addBoat(60, 5, false);
        x.take(0, true);
        Check.due("33 taking", x.isConsistent(), true);
        x.wind(0, 5);
        x.wind(1, 5);
        x.wind(2, 5);
        x.pass(60);
        Check.due("33 flow", x.isConsistent(), true);
    }

    private static void example1() {
        LockStaircase x = ladder(3, 10, 10);
        Check.due("example 1", x.addBoat(20, 3, false), 0);
        Check.due("example 1", x.minutesFor(0, true), -1);
        Check.due("example 1", x.waterFor(0, true), 9);
        Check.due("example 1", x.take(0, true), 1);
        Check.due("example 1", x.levelOf(1), 10);
        Check.due("example 1", x.poundLevel(), 29);
    }

    private static void example2() {
        LockStaircase x = ladder(2, 20, 1);
        Check.due("example 2", x.addBoat(10, 10, false), 0);
        Check.due("example 2", x.take(0, true), 1);
        Check.due("example 2", x.reportLength(), 4);
        Check.due("example 2", x.reportKind(0), 6);
        Check.due("example 2", x.reportKind(3), 5);
    }

    private static void example3() {
        LockStaircase x = ladder(2, 5, 50);
        Check.due("example 3", x.headAt(1), 5);
        Check.due("example 3", x.openObstacle(1), 3);
        Check.due("example 3", x.wind(2, 1), 0);
        Check.due("example 3", x.pass(2), 4);
        Check.due("example 3", x.headAt(2), 0);
        Check.due("example 3", x.wind(2, 0), 1);
        Check.due("example 3", x.openObstacle(2), 0);
    }

    private static void example4() {
        LockStaircase x = ladder(1, 5, 1);
        Check.due("example 4", x.addBoat(40, 2, false), 0);
        Check.due("example 4", x.addBoat(30, 2, false), 1);
        Check.due("example 4", x.open(0), 1);
        Check.due("example 4", x.move(0, true), 1);
        Check.due("example 4", x.moveObstacle(1, true), 3);
        Check.refuses("example 4", x, STATE, () -> x.move(1, true));
    }
}
