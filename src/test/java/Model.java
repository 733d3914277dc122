import java.math.BigInteger;
import java.util.ArrayList;
import java.util.List;

/**
 * The document written a second time and in another way, for runs of calls to be held against.
 * A coracle is kept as what about() tells of it, a net as its two coracles and what it caught.
 */
public final class Model {
    private static final int LATHS = 0;
    private static final int HIDE = 1;
    private static final int SKILL = 2;
    private static final int REACH = 3;
    private static final int GOAL = 4;
    private static final int TAR = 5;
    private static final int WATER = 6;
    private static final int LOAD = 7;
    private static final int AFLOAT = 8;
    private static final int OTHER = 9;

    private final int[] drift = {1, 1, 1, 1, 1, 1, 1, 1};
    private final int[] run = {3, 3, 3, 3, 3, 3, 3, 3};
    private final int[] reaches = {4, 4, 4, 4, 4, 4, 4, 4, 4, 4, 4, 4, 4, 4, 4, 4};
    private final List<int[]> coracles = new ArrayList<>();
    private final List<int[]> nets = new ArrayList<>();
    /** What count() tells of the hour, coins, laths, sold and spawned salmon and hides; the rest is counted anew. */
    private final int[] kept = {0, 12, 50, 0, 0, 0, 0, 0, 0, 0, 3, 3, 3};

    private Model copy() {
        Model m = new Model();
        System.arraycopy(drift, 0, m.drift, 0, 8);
        System.arraycopy(run, 0, m.run, 0, 8);
        System.arraycopy(reaches, 0, m.reaches, 0, 16);
        System.arraycopy(kept, 0, m.kept, 0, 13);
        coracles.forEach(c -> m.coracles.add(c.clone()));
        nets.forEach(n -> m.nets.add(n.clone()));
        return m;
    }

    private static void index(boolean holds) {
        if (!holds) {
            throw new IndexOutOfBoundsException();
        }
    }

    private static void argument(boolean holds) {
        if (!holds) {
            throw new IllegalArgumentException();
        }
    }

    private static void state(boolean holds) {
        if (!holds) {
            throw new IllegalStateException();
        }
    }

    private static boolean in(int least, int value, int most) {
        return least <= value && value <= most;
    }

    private int[] coracle(int number) {
        index(in(0, number, coracles.size() - 1));
        return coracles.get(number);
    }

    private int[] tied(int number) {
        index(in(0, number, nets.size() - 1));
        return nets.get(number);
    }

    public int setDrift(int hour, int by) {
        index(in(0, hour, 7));
        argument(in(0, by, 5));
        int before = drift[hour];
        drift[hour] = by;
        return before;
    }

    public int setRun(int hour, int many) {
        index(in(0, hour, 7));
        argument(in(0, many, 9));
        int before = run[hour];
        run[hour] = many;
        return before;
    }

    public int buy(int what, int many) {
        index(in(0, what, 3));
        argument(in(1, many, 40));
        int cost = many * (what == 0 ? 4 : what == 1 ? 3 : 1);
        state(cost <= kept[1]);
        kept[1] -= cost;
        return kept[what == 3 ? 2 : 10 + what] += many;
    }

    public int make(int laths, int hide, int skill) {
        index(in(0, hide, 2));
        argument(in(4, laths, 12) && in(1, skill, 6));
        state(coracles.size() != 6 && kept[2] >= laths && kept[10 + hide] > 0);
        kept[2] -= laths;
        kept[10 + hide] -= 1;
        coracles.add(new int[] {laths, hide, skill, 0, 0, 30, 0, 0, 1, -1});
        return coracles.size() - 1;
    }

    public int net(int one, int other) {
        int[] first = coracle(one);
        int[] second = coracle(other);
        argument(one != other);
        state(first[OTHER] == -1 && second[OTHER] == -1);
        first[OTHER] = other;
        second[OTHER] = one;
        nets.add(new int[] {one, other, 0});
        return nets.size() - 1;
    }

    public int send(int coracle, int goal) {
        int[] c = coracle(coracle);
        index(in(0, goal, 15));
        int before = c[GOAL];
        c[GOAL] = goal;
        return before;
    }

    public int tar(int coracle) {
        int[] c = coracle(coracle);
        state(c[AFLOAT] == 1 && c[REACH] == 0 && kept[1] >= 3);
        kept[1] -= 3;
        int water = c[WATER];
        c[TAR] = 30;
        c[WATER] = 0;
        return water;
    }

    public int land(int coracle) {
        int[] c = coracle(coracle);
        state(c[AFLOAT] == 1 && c[REACH] == 0);
        int coins = c[LOAD] + c[LOAD];
        kept[1] += coins;
        kept[8] += c[LOAD];
        c[LOAD] = 0;
        return coins;
    }

    public int about(int coracle, int what) {
        int[] c = coracle(coracle);
        index(in(0, what, 9));
        return c[what];
    }

    public int told(int net, int what) {
        int[] n = tied(net);
        index(in(0, what, 3));
        return what < 3 ? n[what] : wouldCatch(n);
    }

    public int reach(int reach, int what) {
        index(in(0, reach, 15) && in(0, what, 1));
        return what == 0 ? reaches[reach]
                : (int) coracles.stream().filter(c -> c[AFLOAT] == 1 && c[REACH] == reach).count();
    }

    public int count(int what) {
        index(in(0, what, 12));
        switch (what) {
            case 3: return coracles.size();
            case 4: return coracles.stream().mapToInt(c -> c[AFLOAT]).sum();
            case 5: return nets.size();
            case 6: return coracles.stream().mapToInt(c -> c[LOAD]).sum();
            case 7: return java.util.Arrays.stream(reaches).sum();
            default: return kept[what];
        }
    }

    public int pass(int hours) {
        argument(in(1, hours, 40));
        int before = nets.stream().mapToInt(n -> n[2]).sum();
        for (int h = 0; h < hours; h++) {
            hour();
        }
        return nets.stream().mapToInt(n -> n[2]).sum() - before;
    }

    public int meets(int net) {
        tied(net);
        Model m = copy();
        for (int behind = 0; behind <= 90; behind++) {
            if (m.together(m.tied(net))) {
                return behind;
            }
            m.hour();
        }
        return -1;
    }

    public int sinks(int coracle) {
        coracle(coracle);
        Model m = copy();
        for (int behind = 0; behind <= 90; behind++) {
            if (m.coracle(coracle)[AFLOAT] == 0) {
                return behind;
            }
            m.hour();
        }
        return -1;
    }

    public int foresee(int hours, int what) {
        argument(in(1, hours, 40));
        index(in(0, what, 12));
        Model m = copy();
        m.pass(hours);
        return m.count(what);
    }

    public int advise(int net, int hours) {
        tied(net);
        argument(in(1, hours, 10));
        int[] caught = new int[16];
        for (int goal = 0; goal < 16; goal++) {
            Model m = copy();
            int[] n = m.tied(net);
            m.send(n[0], goal);
            m.send(n[1], goal);
            m.pass(hours);
            caught[goal] = n[2];
        }
        int most = java.util.Arrays.stream(caught).max().getAsInt();
        int goal = 0;
        while (caught[goal] < most) {
            goal++;
        }
        return goal;
    }

    public double mean() {
        return coracles.stream().mapToInt(c -> c[TAR]).average().orElse(0);
    }

    public long digest() {
        List<Integer> all = new ArrayList<>();
        for (int what = 0; what <= 12; what++) {
            all.add(count(what));
        }
        for (int h = 0; h < 8; h++) {
            all.addAll(List.of(drift[h], run[h]));
        }
        coracles.forEach(c -> java.util.Arrays.stream(c).forEach(all::add));
        nets.forEach(n -> all.addAll(List.of(n[0], n[1], n[2], wouldCatch(n))));
        for (int r = 0; r < 16; r++) {
            all.addAll(List.of(reach(r, 0), reach(r, 1)));
        }
        BigInteger d = BigInteger.valueOf(1487);
        for (int x : all) {
            d = d.multiply(BigInteger.valueOf(31)).add(BigInteger.valueOf(x));
        }
        return d.longValue();
    }

    // ---- an hour, point by point

    private void hour() {
        coracles.stream().filter(c -> c[AFLOAT] == 1).forEach(c -> move(c, drift[kept[0] % 8]));
        nets.forEach(this::draw);
        coracles.stream().filter(c -> c[AFLOAT] == 1).forEach(Model::leak);
        if (kept[0] % 4 == 3) {
            climb();
        }
        reaches[15] += run[kept[0] % 8];
        reaches[15] = reaches[15] > 60 ? 60 : reaches[15];
        kept[0] += 1;
    }

    private static void move(int[] c, int by) {
        for (int i = 0; i < by && c[REACH] < 15; i++) {
            c[REACH] += 1;
        }
        for (int i = 0; i < c[SKILL] && c[REACH] != c[GOAL]; i++) {
            c[REACH] += c[GOAL] > c[REACH] ? 1 : -1;
        }
    }

    private boolean together(int[] n) {
        int[] first = coracles.get(n[0]);
        int[] second = coracles.get(n[1]);
        return first[AFLOAT] + second[AFLOAT] == 2 && first[REACH] == second[REACH];
    }

    private static int room(int[] c) {
        return c[LATHS] - c[LOAD];
    }

    private int wouldCatch(int[] n) {
        int[] first = coracles.get(n[0]);
        int[] second = coracles.get(n[1]);
        int most = Math.min(first[SKILL], second[SKILL]) + 2;
        return together(n) ? Math.min(Math.min(reaches[first[REACH]], most), room(first) + room(second)) : 0;
    }

    private void draw(int[] n) {
        int many = wouldCatch(n);
        int[] first = coracles.get(n[0]);
        int[] second = coracles.get(n[1]);
        int ofFirst = (many + 1) / 2;
        while (many - ofFirst > room(second)) {
            ofFirst++;
        }
        while (ofFirst > room(first)) {
            ofFirst--;
        }
        reaches[first[REACH]] -= many;
        first[LOAD] += ofFirst;
        second[LOAD] += many - ofFirst;
        n[2] += many;
    }

    private static void leak(int[] c) {
        c[TAR] -= c[TAR] > 0 ? 1 : 0;
        int[][] water = {{1, 0, 0}, {1, 1, 0}, {3, 2, 0}};
        c[WATER] += water[c[HIDE]][c[TAR] == 0 ? 0 : c[TAR] < 8 ? 1 : 2];
        if (c[WATER] >= 2 * c[LATHS]) {
            c[LOAD] = 0;
            c[AFLOAT] = 0;
        }
    }

    private void climb() {
        int[] before = reaches.clone();
        for (int r = 0; r < 16; r++) {
            int fromBelow = r < 15 ? before[r + 1] / 2 : 0;
            reaches[r] = Math.min(60, before[r] - before[r] / 2 + fromBelow);
        }
        kept[9] += before[0] / 2;
    }
}
