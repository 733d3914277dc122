import java.util.ArrayList;
import java.util.List;
import java.util.Random;

/**
 * Runs of calls out of a fixed seed. Each call's exception is worked out ahead from the public face alone, and what
 * would be is held against a twin object on which the same calls are made and the hours really go by.
 */
public final class RandomRunsTest {
    private static final int RUNS = 400;
    private static final int CALLS = 120;
    private static final int INDEX = 1;
    private static final int ARGUMENT = 2;
    private static final int STATE = 3;
    private static final int[] PRICES = {4, 3, 1, 1};

    private static int wrong = 0;

    private static final class Step {
        final int kind;
        final int a;
        final int b;
        final int c;

        Step(int kind, int a, int b, int c) {
            this.kind = kind;
            this.a = a;
            this.b = b;
            this.c = c;
        }

        public String toString() {
            return kind + "(" + a + ", " + b + ", " + c + ")";
        }
    }

    public static void main(String[] args) {
        for (int seed = 0; seed < RUNS && wrong < 20; seed++) {
            oneRun(seed);
        }
        System.out.println(wrong == 0 ? "all runs are as due" : wrong + " answers are wrong");
        if (wrong != 0) {
            System.exit(1);
        }
    }

    private static void is(int seed, List<Step> done, String what, long got, long want) {
        if (got != want) {
            wrong++;
            System.out.println("run " + seed + ", behind " + done + ": " + what + " answered " + got
                    + ", due is " + want);
        }
    }

    private static void oneRun(int seed) {
        Random random = new Random(seed);
        CoracleMakers x = new CoracleMakers();
        List<Step> done = new ArrayList<>();
        for (int i = 0; i < CALLS; i++) {
            Step step = anyStep(random, i);
            int due = dueOf(x, step);
            long before = x.digest();
            is(seed, done, "exception of " + step, thrownBy(x, step), due);
            if (due != 0 || step.kind >= 7 && step.kind != 11) {
                is(seed, done, "digest behind " + step, x.digest(), before);
            }
            if (due == 0 && (step.kind < 7 || step.kind == 11)) {
                done.add(step);
            }
            if (i % 15 == 14) {
                holdAgainstTwins(seed, x, done);
            }
        }
    }

    /** Mostly near what is allowed, so that both sides of each edge come often; at times far off. */
    private static int anyNumber(Random random, int least, int most) {
        int kind = random.nextInt(40);
        if (kind == 0) {
            return Integer.MIN_VALUE + random.nextInt(3);
        }
        if (kind == 1) {
            return Integer.MAX_VALUE - random.nextInt(3);
        }
        if (kind == 2) {
            return random.nextInt();
        }
        if (kind < 6) {
            return least - 1 + random.nextInt(most - least + 3);
        }
        return least + random.nextInt(most - least + 1);
    }

    private static Step anyStep(Random random, int at) {
        int kind = random.nextInt(18);
        if (at < 8) {
            kind = random.nextInt(4) == 0 ? 4 : 3;
        }
        switch (kind) {
            case 0: return new Step(kind, anyNumber(random, 0, 7), anyNumber(random, 0, 5), 0);
            case 1: return new Step(kind, anyNumber(random, 0, 7), anyNumber(random, 0, 9), 0);
            case 2: return new Step(kind, anyNumber(random, 0, 3), anyNumber(random, 1, 6), 0);
            case 3: return new Step(kind, anyNumber(random, 4, 12), anyNumber(random, 0, 2), anyNumber(random, 1, 6));
            case 4: return new Step(kind, anyNumber(random, 0, 5), anyNumber(random, 0, 5), 0);
            case 5: return new Step(kind, anyNumber(random, 0, 5), anyNumber(random, 0, 15), 0);
            case 7: return new Step(kind, anyNumber(random, 0, 5), anyNumber(random, 0, 9), 0);
            case 8: return new Step(kind, anyNumber(random, 0, 2), anyNumber(random, 0, 3), 0);
            case 9: return new Step(kind, anyNumber(random, 0, 15), anyNumber(random, 0, 1), 0);
            case 10: return new Step(kind, anyNumber(random, 0, 12), 0, 0);
            case 11: return new Step(kind, anyNumber(random, 1, random.nextInt(6) == 0 ? 40 : 4), 0, 0);
            case 12: return new Step(kind, anyNumber(random, 0, 2), 0, 0);
            case 14: return new Step(kind, anyNumber(random, 1, 40), anyNumber(random, 0, 12), 0);
            case 15: return new Step(kind, anyNumber(random, 0, 2), anyNumber(random, 1, 10), 0);
            case 16: return new Step(6, anyNumber(random, 0, 5), 1, 0);
            default: return new Step(kind == 17 ? 5 : kind, anyNumber(random, 0, 5), anyNumber(random, 0, 3), 0);
        }
    }

    private static long answer(CoracleMakers x, Step s) {
        switch (s.kind) {
            case 0: return x.setDrift(s.a, s.b);
            case 1: return x.setRun(s.a, s.b);
            case 2: return x.buy(s.a, s.b);
            case 3: return x.make(s.a, s.b, s.c);
            case 4: return x.net(s.a, s.b);
            case 5: return x.send(s.a, s.b);
            case 6: return s.b == 1 ? x.tar(s.a) : x.land(s.a);
            case 7: return x.about(s.a, s.b);
            case 8: return x.told(s.a, s.b);
            case 9: return x.reach(s.a, s.b);
            case 10: return x.count(s.a);
            case 11: return x.pass(s.a);
            case 12: return x.meets(s.a);
            case 13: return x.sinks(s.a);
            case 14: return x.foresee(s.a, s.b);
            default: return x.advise(s.a, s.b);
        }
    }

    private static int thrownBy(CoracleMakers x, Step s) {
        try {
            answer(x, s);
        } catch (RuntimeException e) {
            if (e.getClass() == IndexOutOfBoundsException.class) {
                return INDEX;
            }
            if (e.getClass() == IllegalArgumentException.class) {
                return ARGUMENT;
            }
            return e.getClass() == IllegalStateException.class ? STATE : -1;
        }
        return 0;
    }

    private static boolean out(int value, int least, int most) {
        return value < least || value > most;
    }

    private static int dueOf(CoracleMakers x, Step s) {
        int made = x.count(3) - 1;
        int nets = x.count(5) - 1;
        switch (s.kind) {
            case 0: return out(s.a, 0, 7) ? INDEX : out(s.b, 0, 5) ? ARGUMENT : 0;
            case 1: return out(s.a, 0, 7) ? INDEX : out(s.b, 0, 9) ? ARGUMENT : 0;
            case 2: return out(s.a, 0, 3) ? INDEX : out(s.b, 1, 40) ? ARGUMENT
                    : x.count(1) < PRICES[s.a] * s.b ? STATE : 0;
            case 3: return dueOfMake(x, s);
            case 4: return out(s.a, 0, made) || out(s.b, 0, made) ? INDEX : s.a == s.b ? ARGUMENT
                    : x.about(s.a, 9) >= 0 || x.about(s.b, 9) >= 0 ? STATE : 0;
            case 5: return out(s.a, 0, made) || out(s.b, 0, 15) ? INDEX : 0;
            case 6: return out(s.a, 0, made) ? INDEX
                    : x.about(s.a, 8) == 0 || x.about(s.a, 3) != 0 || s.b == 1 && x.count(1) < 3 ? STATE : 0;
            case 7: return out(s.a, 0, made) || out(s.b, 0, 9) ? INDEX : 0;
            case 8: return out(s.a, 0, nets) || out(s.b, 0, 3) ? INDEX : 0;
            case 9: return out(s.a, 0, 15) || out(s.b, 0, 1) ? INDEX : 0;
            case 10: return out(s.a, 0, 12) ? INDEX : 0;
            case 11: return out(s.a, 1, 40) ? ARGUMENT : 0;
            case 12: return out(s.a, 0, nets) ? INDEX : 0;
            case 13: return out(s.a, 0, made) ? INDEX : 0;
            case 14: return out(s.a, 1, 40) ? ARGUMENT : out(s.b, 0, 12) ? INDEX : 0;
            default: return out(s.a, 0, nets) ? INDEX : out(s.b, 1, 10) ? ARGUMENT : 0;
        }
    }

    private static int dueOfMake(CoracleMakers x, Step s) {
        if (out(s.b, 0, 2)) {
            return INDEX;
        }
        if (out(s.a, 4, 12) || out(s.c, 1, 6)) {
            return ARGUMENT;
        }
        return x.count(3) == 6 || x.count(2) < s.a || x.count(10 + s.b) == 0 ? STATE : 0;
    }

    private static CoracleMakers twin(List<Step> done) {
        CoracleMakers x = new CoracleMakers();
        for (Step step : done) {
            answer(x, step);
        }
        return x;
    }

    private static boolean areTogether(CoracleMakers x, int net) {
        int one = x.told(net, 0);
        int other = x.told(net, 1);
        return x.about(one, 8) == 1 && x.about(other, 8) == 1 && x.about(one, 3) == x.about(other, 3);
    }

    private static void holdAgainstTwins(int seed, CoracleMakers x, List<Step> done) {
        long before = x.digest();
        int made = x.count(3);
        int nets = x.count(5);
        int[] meets = new int[nets];
        int[] sinks = new int[made];
        java.util.Arrays.fill(meets, -1);
        java.util.Arrays.fill(sinks, -1);
        CoracleMakers later = twin(done);
        is(seed, done, "digest of a twin", later.digest(), before);
        for (int hours = 0; hours <= 90; hours++) {
            for (int net = 0; net < nets; net++) {
                meets[net] = meets[net] < 0 && areTogether(later, net) ? hours : meets[net];
            }
            for (int coracle = 0; coracle < made; coracle++) {
                sinks[coracle] = sinks[coracle] < 0 && later.about(coracle, 8) == 0 ? hours : sinks[coracle];
            }
            for (int what = 0; what < 13 && hours > 0 && hours <= 40; what++) {
                is(seed, done, "foresee(" + hours + ", " + what + ")", x.foresee(hours, what), later.count(what));
            }
            later.pass(1);
        }
        for (int net = 0; net < nets; net++) {
            is(seed, done, "meets(" + net + ")", x.meets(net), meets[net]);
            int hours = 1 + (seed + net) % 10;
            is(seed, done, "advise(" + net + ", " + hours + ")", x.advise(net, hours), advised(done, net, hours));
        }
        for (int coracle = 0; coracle < made; coracle++) {
            is(seed, done, "sinks(" + coracle + ")", x.sinks(coracle), sinks[coracle]);
        }
        is(seed, done, "digest behind what would be", x.digest(), before);
    }

    private static int advised(List<Step> done, int net, int hours) {
        int best = 0;
        int most = -1;
        for (int goal = 0; goal < 16; goal++) {
            CoracleMakers x = twin(done);
            x.send(x.told(net, 0), goal);
            x.send(x.told(net, 1), goal);
            x.pass(hours);
            if (x.told(net, 2) > most) {
                most = x.told(net, 2);
                best = goal;
            }
        }
        return best;
    }
}
