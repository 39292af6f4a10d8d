/** Counts and tells what the tests of the project find. */
final class Check {
    private static int passed = 0;
    private static int failed = 0;

    private Check() {
    }

    static void due(String what, Object got, Object want) {
        if (want.equals(got)) {
            passed++;
        } else {
            failed++;
            System.out.println(what + " answered " + got + ", due is " + want);
        }
    }

    static void refusesIndex(String what, LockStaircase x, Runnable call) {
        refuses(what, x, IndexOutOfBoundsException.class, call);
    }

    static void refusesArgument(String what, LockStaircase x, Runnable call) {
        refuses(what, x, IllegalArgumentException.class, call);
    }

    static void refusesState(String what, LockStaircase x, Runnable call) {
        refuses(what, x, IllegalStateException.class, call);
    }

    /** The call must throw exactly this exception and leave everything that can be asked as it was. */
    static void refuses(String what, LockStaircase x, Class<? extends RuntimeException> want, Runnable call) {
        String before = pictureWithForecasts(x);
        String thrown = "nothing";
        try {
            call.run();
        } catch (RuntimeException e) {
            thrown = e.getClass().getSimpleName();
        }
        due(what + " throws", thrown, want.getSimpleName());
        due(what + " leaves", pictureWithForecasts(x), before);
    }

    /** Everything that can be asked without a change, forecasts left out. */
    static String picture(LockStaircase x) {
        StringBuilder s = new StringBuilder();
        int chambers = x.chambers();
        s.append("chambers=").append(chambers);
        s.append(" pound=").append(x.poundWater()).append('/').append(x.poundDepth()).append('/').append(x.poundLevel());
        s.append(" clock=").append(x.clock()).append(" lost=").append(x.lostWater());
        s.append(" mean=").append(x.meanLevel()).append(" part=").append(x.poundPart());
        for (int c = 0; c < chambers; c++) {
            s.append(" C").append(c).append('=').append(x.levelOf(c)).append('/').append(x.freeLength(c));
        }
        for (int g = 0; g <= chambers; g++) {
            s.append(" G").append(g).append('=').append(x.headAt(g)).append('/').append(x.isOpen(g));
            s.append('/').append(x.turnsOf(g)).append('/').append(x.openObstacle(g));
        }
        for (int p = 0; p <= chambers + 1; p++) {
            s.append(" P").append(p).append('=').append(x.boatsAt(p));
        }
        for (int b = 0; b < x.boatCount(); b++) {
            s.append(" B").append(b).append('=').append(x.placeOf(b)).append('/').append(x.moveObstacle(b, true));
            s.append('/').append(x.moveObstacle(b, false));
        }
        s.append(" report=").append(report(x)).append(" holds=").append(x.isConsistent());
        return s.toString();
    }

    /** The picture and what the forecasts tell; they know of lengths and draughts that nothing else shows. */
    static String pictureWithForecasts(LockStaircase x) {
        StringBuilder s = new StringBuilder(picture(x));
        for (int b = 0; b < x.boatCount(); b++) {
            s.append(" F").append(b).append('=').append(x.minutesFor(b, true)).append('/').append(x.waterFor(b, true));
            s.append('/').append(x.minutesFor(b, false)).append('/').append(x.waterFor(b, false));
        }
        return s.toString();
    }

    /** The report as kind:number of each entry. */
    static String report(LockStaircase x) {
        StringBuilder s = new StringBuilder();
        for (int e = 0; e < x.reportLength(); e++) {
            s.append(e == 0 ? "" : " ").append(x.reportKind(e)).append(':').append(x.reportNumber(e));
        }
        return s.toString();
    }

    static void finish(String test) {
        System.out.println(test + ": " + passed + " checks passed, " + failed + " failed");
        if (failed != 0) {
            System.exit(1);
        }
    }
}
