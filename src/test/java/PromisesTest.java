/**
 * A test or more of each promise by ordinary inputs, with answers worked out by hand. The edges and the wrong inputs
 * are in CallsBoundariesTest and TermsBoundariesTest.
 */
public final class PromisesTest extends Checks {
    public static void main(String[] args) {
        newObject();
        setDrift();
        setRun();
        buy();
        make();
        net();
        send();
        tar();
        land();
        about();
        told();
        reach();
        count();
        passMoves();
        passCatches();
        passLeaks();
        passClimbs();
        passManyHours();
        meets();
        sinks();
        foresee();
        advise();
        mean();
        digest();
        end();
    }

    // ---- the promises

    private static void newObject() {
        test("1 new object");
        CoracleMakers x = new CoracleMakers();
        counts(x, 0, 12, 50, 0, 0, 0, 0, 64, 0, 0, 3, 3, 3);
        for (int r = 0; r < 16; r++) {
            is("salmon", x.reach(r, 0), 4);
            is("coracles", x.reach(r, 1), 0);
        }
        for (int h = 0; h < 8; h++) {
            is("drift", x.setDrift(h, 1), 1);
            is("run", x.setRun(h, 3), 3);
        }
    }

    private static void setDrift() {
        test("2 setDrift");
        CoracleMakers x = new CoracleMakers();
        is("setDrift(0, 5)", x.setDrift(0, 5), 1);
        is("setDrift(0, 5) again", x.setDrift(0, 5), 5);
        is("setDrift(1, 0)", x.setDrift(1, 0), 1);
        is("setDrift(7, 3)", x.setDrift(7, 3), 1);
        x.make(12, 0, 1);
        coracleReaches(x, 0, 4, 3, 3, 3, 3, 3, 3, 5, 9, 8);
    }

    private static void setRun() {
        test("3 setRun");
        CoracleMakers x = new CoracleMakers();
        is("setRun(0, 9)", x.setRun(0, 9), 3);
        is("setRun(0, 9) again", x.setRun(0, 9), 9);
        is("setRun(1, 0)", x.setRun(1, 0), 3);
        is("setRun(7, 5)", x.setRun(7, 5), 3);
        mouthSalmon(x, 13, 13, 16, 11, 14, 17, 20, 15, 24, 24);
    }

    private static void buy() {
        test("4 buy");
        CoracleMakers x = new CoracleMakers();
        is("buy(0, 1)", x.buy(0, 1), 4);
        is("coins", x.count(1), 8);
        is("buy(1, 1)", x.buy(1, 1), 4);
        is("coins", x.count(1), 5);
        is("buy(2, 2)", x.buy(2, 2), 5);
        is("coins", x.count(1), 3);
        is("buy(3, 3)", x.buy(3, 3), 53);
        counts(x, 0, 0, 53, 0, 0, 0, 0, 64, 0, 0, 4, 4, 5);
    }

    private static void make() {
        test("5 make");
        CoracleMakers x = new CoracleMakers();
        is("make(4, 0, 1)", x.make(4, 0, 1), 0);
        abouts(x, 0, 4, 0, 1, 0, 0, 30, 0, 0, 1, -1);
        is("make(12, 2, 6)", x.make(12, 2, 6), 1);
        abouts(x, 1, 12, 2, 6, 0, 0, 30, 0, 0, 1, -1);
        abouts(x, 0, 4, 0, 1, 0, 0, 30, 0, 0, 1, -1);
        counts(x, 0, 12, 34, 2, 2, 0, 0, 64, 0, 0, 2, 3, 2);
    }

    private static void net() {
        test("6 net");
        CoracleMakers x = new CoracleMakers();
        x.make(4, 2, 1);
        for (int i = 1; i < 6; i++) {
            x.make(4, i % 2, 1);
        }
        is("net(4, 1)", x.net(4, 1), 0);
        is("partner of 4", x.about(4, 9), 1);
        is("partner of 1", x.about(1, 9), 4);
        is("partner of 0", x.about(0, 9), -1);
        is("first", x.told(0, 0), 4);
        is("second", x.told(0, 1), 1);
        x.send(0, 9);
        x.pass(26);
        is("afloat of 0", x.about(0, 8), 0);
        is("net of a sunk one, elsewhere", x.net(0, 2), 1);
        is("partner of the sunk one", x.about(0, 9), 2);
        is("third net", x.net(3, 5), 2);
        is("first of the third net", x.told(2, 0), 3);
        is("second of the third net", x.told(2, 1), 5);
        is("first of the first net", x.told(0, 0), 4);
        is("nets", x.count(5), 3);
    }

    private static void send() {
        test("7 send");
        CoracleMakers x = withOneSunk();
        is("send(1, 15)", x.send(1, 15), 0);
        is("send(1, 3)", x.send(1, 3), 15);
        is("goal", x.about(1, 4), 3);
        is("reach", x.about(1, 3), 0);
        is("send(0, 5) of a sunk one", x.send(0, 5), 0);
        is("goal of the sunk one", x.about(0, 4), 5);
        x.pass(2);
        is("reach of the sunk one", x.about(0, 3), 0);
        is("reach", x.about(1, 3), 2);
        is("send(1, 0)", x.send(1, 0), 3);
    }

    private static void tar() {
        test("8 tar");
        CoracleMakers x = new CoracleMakers();
        x.make(12, 2, 1);
        is("tar of a new one", x.tar(0), 0);
        is("coins", x.count(1), 9);
        x.pass(24);
        is("tar", x.about(0, 5), 6);
        is("water", x.about(0, 6), 4);
        is("tar(0)", x.tar(0), 4);
        abouts(x, 0, 12, 2, 1, 0, 0, 30, 0, 0, 1, -1);
        is("coins", x.count(1), 6);
    }

    private static void land() {
        test("9 land");
        CoracleMakers x = new CoracleMakers();
        x.make(8, 0, 1);
        x.make(8, 1, 1);
        x.net(1, 0);
        is("land of nothing", x.land(0), 0);
        is("pass(1)", x.pass(1), 3);
        is("land(1)", x.land(1), 4);
        counts(x, 1, 16, 34, 2, 2, 1, 1, 64, 2, 0, 2, 2, 3);
        is("land(0)", x.land(0), 2);
        is("load", x.about(0, 7), 0);
        is("coins", x.count(1), 18);
        is("sold", x.count(8), 3);
        is("land(0) again", x.land(0), 0);
    }

    private static void about() {
        test("10 about");
        CoracleMakers x = new CoracleMakers();
        x.make(4, 2, 3);
        x.make(9, 1, 5);
        x.make(6, 0, 2);
        x.net(2, 1);
        x.send(0, 14);
        x.send(1, 6);
        x.send(2, 3);
        x.pass(1);
        abouts(x, 0, 4, 2, 3, 4, 14, 29, 0, 0, 1, -1);
        abouts(x, 1, 9, 1, 5, 6, 6, 29, 0, 0, 1, 2);
        abouts(x, 2, 6, 0, 2, 3, 3, 29, 0, 0, 1, 1);
        x.send(1, 3);
        x.pass(1);
        abouts(x, 1, 9, 1, 5, 3, 3, 28, 0, 2, 1, 2);
        abouts(x, 2, 6, 0, 2, 3, 3, 28, 0, 2, 1, 1);
        x.pass(24);
        abouts(x, 0, 4, 2, 3, 14, 14, 4, 8, 0, 0, -1);
    }

    private static void told() {
        test("11 told");
        CoracleMakers x = new CoracleMakers();
        for (int i = 0; i < 4; i++) {
            x.make(4, i % 3, i + 1);
        }
        x.net(3, 0);
        x.net(1, 2);
        is("told(0, 0)", x.told(0, 0), 3);
        is("told(0, 1)", x.told(0, 1), 0);
        is("told(0, 2)", x.told(0, 2), 0);
        is("told(0, 3), by the lesser skill 1", x.told(0, 3), 3);
        is("told(1, 0)", x.told(1, 0), 1);
        is("told(1, 1)", x.told(1, 1), 2);
        is("told(1, 3), by the salmon", x.told(1, 3), 4);
        x.pass(1);
        is("told(0, 2)", x.told(0, 2), 3);
        is("told(1, 2)", x.told(1, 2), 1);
        is("told(0, 3) without salmon", x.told(0, 3), 0);
        x.send(3, 1);
        x.send(0, 1);
        x.pass(1);
        is("told(0, 2)", x.told(0, 2), 6);
        is("told(0, 3) by one salmon", x.told(0, 3), 1);
        x.send(0, 0);
        x.send(3, 5);
        x.pass(1);
        is("told(0, 3) apart", x.told(0, 3), 0);
        is("told(0, 2)", x.told(0, 2), 6);
    }

    private static void reach() {
        test("12 reach");
        CoracleMakers x = withOneSunk();
        is("reach(0, 1)", x.reach(0, 1), 1);
        x.make(5, 0, 6);
        x.make(5, 0, 6);
        is("reach(0, 1)", x.reach(0, 1), 3);
        x.send(2, 6);
        x.send(3, 6);
        x.pass(1);
        is("reach(0, 1)", x.reach(0, 1), 1);
        is("reach(6, 1)", x.reach(6, 1), 2);
        is("reach(15, 1)", x.reach(15, 1), 0);
    }

    private static void count() {
        test("13 count");
        CoracleMakers x = new CoracleMakers();
        x.make(4, 2, 1);
        x.make(8, 1, 1);
        x.make(8, 1, 1);
        x.net(1, 2);
        x.buy(0, 1);
        x.pass(1);
        counts(x, 1, 8, 30, 3, 3, 1, 3, 64, 0, 0, 4, 1, 2);
        x.land(2);
        x.pass(3);
        counts(x, 4, 10, 30, 3, 3, 1, 3, 72, 1, 0, 4, 1, 2);
        x.pass(22);
        is("made", x.count(3), 3);
        is("afloat", x.count(4), 2);
    }

    private static void passMoves() {
        test("14 pass, moves");
        CoracleMakers x = new CoracleMakers();
        x.make(12, 0, 6);
        x.make(12, 0, 3);
        x.make(12, 0, 1);
        allDrifts(x, 5);
        x.send(0, 15);
        x.send(1, 2);
        int[][] want = {{11, 2, 4}, {15, 4, 8}, {15, 6, 12}, {15, 8, 14}, {15, 10, 14}};
        for (int h = 0; h < want.length; h++) {
            x.pass(1);
            for (int c = 0; c < 3; c++) {
                is("reach of " + c + " behind hour " + h, x.about(c, 3), want[h][c]);
            }
        }
        allDrifts(x, 2);
        x.send(0, 12);
        x.pass(1);
        is("up, no farther", x.about(0, 3), 12);
        is("up by the skill", x.about(1, 3), 9);
        allDrifts(x, 0);
        x.send(0, 14);
        x.pass(2);
        is("down, no farther", x.about(0, 3), 14);
        is("hour", x.count(0), 8);
    }

    private static void passCatches() {
        test("14 pass, catches");
        CoracleMakers x = new CoracleMakers();
        allDrifts(x, 5);
        x.make(12, 0, 6);
        x.make(4, 0, 6);
        x.net(0, 1);
        fillLoads(x, new int[][] {{4, 2, 2}, {7, 7, 4}, {3, 10, 4}, {2, 12, 4}, {0, 12, 4}});
        salmonOfTheMouth(x);
        passNetsByNumbers();
    }

    /** Rows: what the hour caught, and the loads of the two then. */
    private static void fillLoads(CoracleMakers x, int[][] rows) {
        x.send(0, 15);
        x.send(1, 15);
        int all = 0;
        for (int h = 0; h < rows.length; h++) {
            is("caught in hour " + h, x.pass(1), rows[h][0]);
            loads(x, rows[h][1], rows[h][2]);
            all += rows[h][0];
            is("told behind hour " + h, x.told(0, 2), all);
        }
    }

    private static void salmonOfTheMouth(CoracleMakers x) {
        is("salmon at the mouth", x.reach(15, 0), 7);
        is("salmon at the reach 11, caught ahead of the climb", x.reach(11, 0), 2);
        is("salmon at the reach 10", x.reach(10, 0), 2);
    }

    private static void passNetsByNumbers() {
        CoracleMakers x = new CoracleMakers();
        for (int i = 0; i < 4; i++) {
            x.make(6, i % 3, 1);
        }
        x.net(3, 2);
        x.net(0, 1);
        is("pass(1)", x.pass(1), 4);
        is("first of the first net", x.about(3, 7), 2);
        is("second of the first net", x.about(2, 7), 1);
        is("first of the second net", x.about(0, 7), 1);
        is("second of the second net", x.about(1, 7), 0);
        is("salmon at the market", x.reach(0, 0), 0);
        is("load of all", x.count(6), 4);
    }

    private static void passLeaks() {
        test("14 pass, leaks");
        CoracleMakers x = stillWater();
        x.make(12, 0, 1);
        x.make(12, 1, 1);
        x.make(12, 2, 1);
        int[] ox = new int[61];
        int[] horse = new int[61];
        int[] calico = new int[61];
        for (int h = 1; h <= 60; h++) {
            ox[h] = Math.min(24, Math.max(0, h - 29));
            horse[h] = Math.min(24, Math.max(0, h - 22));
            calico[h] = h < 23 ? 0 : h < 30 ? 2 * (h - 22) : Math.min(26, 14 + 3 * (h - 29));
        }
        for (int h = 1; h <= 60; h++) {
            x.pass(1);
            is("water under ox behind " + h, x.about(0, 6), ox[h]);
            is("water under horse behind " + h, x.about(1, 6), horse[h]);
            is("water under calico behind " + h, x.about(2, 6), calico[h]);
            is("tar behind " + h, x.about(0, 5), Math.max(0, 30 - h));
        }
    }

    private static void passClimbs() {
        test("14 pass, climbs");
        CoracleMakers x = new CoracleMakers();
        x.pass(3);
        salmon(x, 4, 4, 4, 4, 4, 4, 4, 4, 4, 4, 4, 4, 4, 4, 4, 13);
        is("spawned", x.count(9), 0);
        x.pass(1);
        salmon(x, 4, 4, 4, 4, 4, 4, 4, 4, 4, 4, 4, 4, 4, 4, 8, 10);
        is("spawned", x.count(9), 2);
        is("all salmon", x.count(7), 74);
        x.pass(4);
        salmon(x, 4, 4, 4, 4, 4, 4, 4, 4, 4, 4, 4, 4, 4, 6, 13, 13);
        is("spawned", x.count(9), 4);
    }

    private static void passManyHours() {
        test("14 pass, many hours");
        CoracleMakers y = new CoracleMakers();
        CoracleMakers z = new CoracleMakers();
        for (CoracleMakers made : new CoracleMakers[] {y, z}) {
            made.make(9, 2, 2);
            made.make(5, 0, 3);
            made.net(0, 1);
            sendBoth(made, 7);
        }
        int caught = 0;
        for (int h = 0; h < 17; h++) {
            caught += y.pass(1);
        }
        is("pass(17)", z.pass(17), caught);
        is("digest", z.digest(), y.digest());
    }

    private static void meets() {
        test("15 meets");
        CoracleMakers x = new CoracleMakers();
        x.make(12, 0, 1);
        x.make(12, 0, 6);
        x.net(0, 1);
        is("meets(0) now", x.meets(0), 0);
        x.send(0, 15);
        x.pass(1);
        is("reach of 0", x.about(0, 3), 2);
        x.send(1, 15);
        long before = x.digest();
        is("meets(0) at the mouth", x.meets(0), 7);
        is("digest", x.digest(), before);
        x.send(1, 4);
        is("meets(0) on the way", x.meets(0), 1);
        x.send(1, 3);
        is("meets(0), passing between", x.meets(0), -1);
    }

    private static void sinks() {
        test("16 sinks");
        int[][] rows = {{12, 0, 53}, {4, 0, 37}, {12, 1, 46}, {4, 1, 30}, {12, 2, 33}, {7, 2, 29}, {8, 2, 30}, {4, 2, 26}};
        for (int[] row : rows) {
            CoracleMakers x = new CoracleMakers();
            x.make(row[0], row[1], 1);
            long before = x.digest();
            is("sinks(0) of hide " + row[1] + ", laths " + row[0], x.sinks(0), row[2]);
            is("digest", x.digest(), before);
            x.pass(20);
            is("sinks(0) 20 hours on", x.sinks(0), row[2] - 20);
            x.tar(0);
            is("sinks(0) tarred", x.sinks(0), row[2]);
            x.pass(row[2] > 40 ? 40 : row[2]);
            is("sinks(0) later", x.sinks(0), Math.max(0, row[2] - 40));
        }
        CoracleMakers x = withOneSunk();
        is("sinks(0) of a sunk one", x.sinks(0), 0);
        is("sinks(1)", x.sinks(1), 27);
    }

    private static CoracleMakers fishing() {
        CoracleMakers x = new CoracleMakers();
        x.setDrift(3, 4);
        x.setRun(6, 8);
        x.make(5, 2, 3);
        x.make(9, 1, 2);
        x.make(7, 0, 5);
        x.net(0, 1);
        x.pass(1);
        x.land(0);
        x.send(0, 7);
        x.send(1, 7);
        x.send(2, 3);
        return x;
    }

    private static void foresee() {
        test("17 foresee");
        for (int hours = 1; hours <= 40; hours++) {
            CoracleMakers x = fishing();
            long before = x.digest();
            CoracleMakers twin = fishing();
            twin.pass(hours);
            for (int what = 0; what < 13; what++) {
                is("foresee(" + hours + ", " + what + ")", x.foresee(hours, what), twin.count(what));
            }
            is("digest", x.digest(), before);
        }
    }

    private static void advise() {
        test("18 advise");
        CoracleMakers x = twoNets();
        for (int net = 0; net < 2; net++) {
            for (int hours = 1; hours <= 10; hours++) {
                is("advise(" + net + ", " + hours + ")", x.advise(net, hours), advisedByTrying(net, hours));
            }
        }
    }

    /** One hour on, so that the market is empty. */
    private static CoracleMakers twoNets() {
        CoracleMakers x = new CoracleMakers();
        x.make(12, 0, 6);
        x.make(12, 0, 6);
        x.make(4, 2, 1);
        x.make(4, 2, 1);
        x.net(0, 1);
        x.net(2, 3);
        x.pass(1);
        return x;
    }

    private static int advisedByTrying(int net, int hours) {
        int best = 0;
        int most = -1;
        for (int goal = 0; goal < 16; goal++) {
            CoracleMakers x = twoNets();
            x.send(2 * net, goal);
            x.send(2 * net + 1, goal);
            x.pass(hours);
            if (x.told(net, 2) > most) {
                most = x.told(net, 2);
                best = goal;
            }
        }
        return best;
    }

    private static void mean() {
        test("19 mean");
        CoracleMakers x = stillWater();
        isDouble("mean() without any", x.mean(), 0.0);
        x.make(4, 2, 1);
        isDouble("mean() of a new one", x.mean(), 30.0);
        x.pass(1);
        x.make(12, 0, 1);
        isDouble("mean() of two", x.mean(), 29.5);
        x.make(12, 0, 1);
        isDouble("mean() of three", x.mean(), 89.0 / 3.0);
        x.pass(39);
        is("tar of the sunk one", x.about(0, 5), 4);
        isDouble("mean() with a sunk one", x.mean(), 4.0 / 3.0);
    }

    private static long digestByHand(CoracleMakers x, int[] drifts, int[] runs) {
        long d = 1487L;
        for (int what = 0; what < 13; what++) {
            d = d * 31 + x.count(what);
        }
        for (int h = 0; h < 8; h++) {
            d = d * 31 + drifts[h];
            d = d * 31 + runs[h];
        }
        for (int c = 0; c < x.count(3); c++) {
            for (int what = 0; what < 10; what++) {
                d = d * 31 + x.about(c, what);
            }
        }
        for (int n = 0; n < x.count(5); n++) {
            for (int what = 0; what < 4; what++) {
                d = d * 31 + x.told(n, what);
            }
        }
        for (int r = 0; r < 16; r++) {
            d = d * 31 + x.reach(r, 0);
            d = d * 31 + x.reach(r, 1);
        }
        return d;
    }

    private static void digest() {
        test("20 digest");
        int[] drifts = {1, 1, 1, 1, 1, 1, 1, 5};
        int[] runs = {9, 3, 3, 3, 3, 3, 3, 3};
        for (int hours = 0; hours < 60; hours++) {
            CoracleMakers x = new CoracleMakers();
            x.setDrift(7, 5);
            x.setRun(0, 9);
            for (int i = 0; i < 6; i++) {
                x.make(4 + i, i / 2, 6 - i);
                x.send(i, 2 * i);
            }
            x.net(4, 1);
            x.net(0, 5);
            for (int h = 0; h < hours; h++) {
                x.pass(1);
            }
            is("digest() behind " + hours + " hours", x.digest(), digestByHand(x, drifts, runs));
            is("digest() again", x.digest(), x.digest());
        }
    }
}
