import java.util.ArrayList;
import java.util.List;
import java.util.function.BooleanSupplier;

/**
 * The document written out word by word and by another way than the class: each unit alone, each condition asked
 * anew, gates really opened and shut, and the chambers that cannot be raised noted one by one.
 */
final class Model {
    private static final class LowPound extends Exception {
        private static final long serialVersionUID = 1L;
        final List<Integer> chambers = new ArrayList<>();
    }

    final int n;
    final int lift;
    final int area;
    final int[] level;
    final boolean[] open;
    final int[] turns;
    final List<int[]> boats = new ArrayList<>();
    final List<int[]> report = new ArrayList<>();
    int water;
    int clock;
    int lost;
    int flowed;

    Model(int chambers, int lift, int area) {
        this.n = chambers < 1 ? 1 : chambers > 6 ? 6 : chambers;
        this.lift = lift < 5 ? 5 : lift > 40 ? 40 : lift;
        this.area = area < 1 ? 1 : area > 50 ? 50 : area;
        level = new int[n];
        for (int c = 0; c < n; c++) {
            level[c] = floor(c);
        }
        open = new boolean[n + 1];
        turns = new int[n + 1];
        water = 20 * this.area;
    }

    Model copy() {
        Model m = new Model(n, lift, area);
        System.arraycopy(level, 0, m.level, 0, n);
        System.arraycopy(open, 0, m.open, 0, n + 1);
        System.arraycopy(turns, 0, m.turns, 0, n + 1);
        for (int[] boat : boats) {
            m.boats.add(boat.clone());
        }
        m.water = water;
        m.clock = clock;
        m.lost = lost;
        return m;
    }

    int floor(int c) {
        return c * lift;
    }

    int top(int c) {
        return (c + 1) * lift;
    }

    int depth() {
        int d = water / area;
        while (d * area > water) {
            d--;
        }
        return d;
    }

    int pound() {
        return top(n - 1) - 20 + depth();
    }

    int head(int g) {
        int above = g == n ? pound() : level[g];
        int below = g == 0 ? 0 : level[g - 1];
        return above - below;
    }

    boolean nearOpen(int g) {
        return open[g] || g > 0 && open[g - 1] || g < n && open[g + 1];
    }

    boolean nearUp(int g) {
        return turns[g] > 0 || g > 0 && turns[g - 1] > 0 || g < n && turns[g + 1] > 0;
    }

    int openObstacle(int g) {
        return open[g] ? 1 : nearUp(g) ? 2 : head(g) != 0 ? 3 : 0;
    }

    int opens() {
        int k = 0;
        for (boolean o : open) {
            k += o ? 1 : 0;
        }
        return k;
    }

    boolean unit(int g) {
        if (g == n) {
            if (pound() <= level[n - 1]) {
                return false;
            }
            water--;
            level[n - 1]++;
        } else if (g == 0) {
            if (level[0] <= 0) {
                return false;
            }
            level[0]--;
            lost++;
        } else {
            if (level[g] <= floor(g) || level[g - 1] >= top(g - 1)) {
                return false;
            }
            level[g]--;
            level[g - 1]++;
        }
        flowed++;
        return true;
    }

    int pass(int minutes) {
        flowed = 0;
        for (int m = 0; m < minutes; m++) {
            clock++;
            for (int g = 0; g <= n; g++) {
                for (int u = 0; u < 4 * turns[g]; u++) {
                    unit(g);
                }
            }
        }
        return flowed;
    }

    int room(int c) {
        int free = 60;
        for (int[] boat : boats) {
            free -= boat[2] == c + 1 ? boat[0] : 0;
        }
        return free;
    }

    int count(int place) {
        int k = 0;
        for (int[] boat : boats) {
            k += boat[2] == place ? 1 : 0;
        }
        return k;
    }

    int moveObstacle(int b, boolean up) {
        int[] boat = boats.get(b);
        if (boat[2] == (up ? n + 1 : 0)) {
            return 1;
        }
        return !open[up ? boat[2] : boat[2] - 1] ? 2 : tight(boat, up);
    }

    private int tight(int[] boat, boolean up) {
        int to = up ? boat[2] + 1 : boat[2] - 1;
        if (to >= 1 && to <= n && room(to - 1) < boat[0]) {
            return 3;
        }
        return to == n + 1 && depth() < boat[1] ? 4 : 0;
    }

    private void run(int g, BooleanSupplier holds) {
        boolean failed = false;
        while (!holds.getAsBoolean() && !failed) {
            clock++;
            for (int u = 0; u < 20 && !holds.getAsBoolean() && !failed; u++) {
                failed = !unit(g);
            }
        }
    }

    private void lower(int c, int t) {
        while (level[c] > t) {
            if (c == 0) {
                run(0, () -> level[0] == t);
                continue;
            }
            if (level[c - 1] == top(c - 1)) {
                lower(c - 1, floor(c - 1));
            }
            run(c, () -> level[c] == t);
        }
    }

    private void raise(int c, int t) throws LowPound {
        while (level[c] < t) {
            int difference = t - level[c];
            if (c == n - 1) {
                run(n, () -> level[c] == t);
                if (level[c] < t) {
                    LowPound low = new LowPound();
                    low.chambers.add(c);
                    throw low;
                }
                continue;
            }
            if (level[c + 1] < floor(c + 1) + difference) {
                try {
                    raise(c + 1, floor(c + 1) + difference);
                } catch (LowPound low) {
                    low.chambers.add(0, c);
                    throw low;
                }
            }
            run(c + 1, () -> level[c] == t);
        }
    }

    private void levelGate(int g) throws LowPound {
        if (g == 0) {
            lower(0, floor(0));
        } else if (g < n) {
            lower(g, floor(g));
            raise(g - 1, top(g - 1));
        } else {
            while (head(n) != 0) {
                if (pound() < floor(n - 1)) {
                    throw new LowPound();
                }
                if (head(n) > 0) {
                    run(n, () -> head(n) <= 0);
                } else {
                    lower(n - 1, pound());
                }
            }
        }
    }

    int take(int b, boolean up) {
        report.clear();
        closeAll();
        int[] boat = boats.get(b);
        while (boat[2] != (up ? n + 1 : 0)) {
            int g = up ? boat[2] : boat[2] - 1;
            try {
                levelGate(g);
            } catch (LowPound low) {
                report.add(new int[] {6, g});
                for (int c : low.chambers) {
                    report.add(new int[] {7, c});
                }
                report.add(new int[] {5, -1});
                break;
            }
            if (openObstacle(g) != 0) {
                throw new AssertionError("a levelled gate cannot be opened");
            }
            open[g] = true;
            int obstacle = moveObstacle(b, up);
            if (obstacle == 0) {
                boat[2] += up ? 1 : -1;
            }
            open[g] = false;
            if (obstacle != 0) {
                report.add(new int[] {6, g});
                report.add(new int[] {obstacle, -1});
                break;
            }
        }
        return boat[2];
    }

    private void closeAll() {
        for (int g = 0; g <= n; g++) {
            open[g] = false;
            turns[g] = 0;
        }
    }

    int minutesFor(int b, boolean up) {
        Model m = copy();
        m.take(b, up);
        return m.report.isEmpty() ? m.clock - clock : -1;
    }

    int waterFor(int b, boolean up) {
        Model m = copy();
        m.take(b, up);
        return water - m.water;
    }

    /** The same picture as Check.picture, from what the document says. */
    String picture() {
        StringBuilder s = new StringBuilder();
        int sum = 0;
        for (int l : level) {
            sum += l;
        }
        s.append("chambers=").append(n);
        s.append(" pound=").append(water).append('/').append(depth()).append('/').append(pound());
        s.append(" clock=").append(clock).append(" lost=").append(lost);
        s.append(" mean=").append((double) sum / (double) n).append(" part=").append((float) water / (float) (20 * area));
        for (int c = 0; c < n; c++) {
            s.append(" C").append(c).append('=').append(level[c]).append('/').append(room(c));
        }
        for (int g = 0; g <= n; g++) {
            s.append(" G").append(g).append('=').append(head(g)).append('/').append(open[g]);
            s.append('/').append(turns[g]).append('/').append(openObstacle(g));
        }
        for (int p = 0; p <= n + 1; p++) {
            s.append(" P").append(p).append('=').append(count(p));
        }
        for (int b = 0; b < boats.size(); b++) {
            s.append(" B").append(b).append('=').append(boats.get(b)[2]).append('/').append(moveObstacle(b, true));
            s.append('/').append(moveObstacle(b, false));
        }
        s.append(" report=");
        for (int e = 0; e < report.size(); e++) {
            s.append(e == 0 ? "" : " ").append(report.get(e)[0]).append(':').append(report.get(e)[1]);
        }
        return s.append(" holds=true").toString();
    }
}
