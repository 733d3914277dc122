/** One test or more for each promise of the document, with answers worked out by hand from its text. */
public final class PromisesTest {
    private static final Class<?> INDEX = IndexOutOfBoundsException.class;
    private static final Class<?> ARGUMENT = IllegalArgumentException.class;
    private static final Class<?> STATE = IllegalStateException.class;
    private static final int[] FAR = {Integer.MIN_VALUE, Integer.MAX_VALUE};

    private static int wrong = 0;
    private static String promise = "";

    private interface Call {
        void run();
    }

    public static void main(String[] args) {
        newObject();
        setDrift();
        setRun();
        buy();
        make();
        net();
        send();
        tar();
        land();
        about();
        told();
        reach();
        count();
        passMoves();
        passCatches();
        passLeaks();
        passClimbs();
        passWrong();
        meets();
        sinks();
        foresee();
        advise();
        mean();
        digest();
        System.out.println(wrong == 0 ? "all promises hold" : wrong + " answers are wrong");
        if (wrong != 0) {
            System.exit(1);
        }
    }

    // ---- helpers

    private static void is(String what, long got, long want) {
        if (got != want) {
            wrong++;
            System.out.println(promise + ": " + what + " answered " + got + ", due is " + want);
        }
    }

    private static void isDouble(String what, double got, double want) {
        if (Double.compare(got, want) != 0) {
            wrong++;
            System.out.println(promise + ": " + what + " answered " + got + ", due is " + want);
        }
    }

    private static void fails(CoracleMakers x, String what, Class<?> want, Call call) {
        long before = x.digest();
        Object got = "nothing";
        try {
            call.run();
        } catch (RuntimeException e) {
            got = e.getClass();
        }
        if (got != want) {
            wrong++;
            System.out.println(promise + ": " + what + " threw " + got + ", due is " + want);
        }
        is("digest after " + what + " that throws", x.digest(), before);
    }

    private static CoracleMakers stillWater() {
        CoracleMakers x = new CoracleMakers();
        allDrifts(x, 0);
        return x;
    }

    private static void allDrifts(CoracleMakers x, int by) {
        for (int h = 0; h < 8; h++) {
            x.setDrift(h, by);
        }
    }

    private static void allRuns(CoracleMakers x, int many) {
        for (int h = 0; h < 8; h++) {
            x.setRun(h, many);
        }
    }

    private static void abouts(CoracleMakers x, int coracle, int... want) {
        for (int what = 0; what < 10; what++) {
            is("about(" + coracle + ", " + what + ")", x.about(coracle, what), want[what]);
        }
    }

    private static void counts(CoracleMakers x, int... want) {
        for (int what = 0; what < 13; what++) {
            is("count(" + what + ")", x.count(what), want[what]);
        }
    }

    private static void salmon(CoracleMakers x, int... want) {
        for (int r = 0; r < 16; r++) {
            is("reach(" + r + ", 0)", x.reach(r, 0), want[r]);
        }
    }

    /** A river with a calico coracle of 4 laths that has sunk at the market, 26 hours on, and an ox one. */
    private static CoracleMakers withOneSunk() {
        CoracleMakers x = stillWater();
        x.make(4, 2, 1);
        x.make(12, 0, 1);
        x.pass(26);
        return x;
    }

    // ---- the promises

    private static void newObject() {
        promise = "1 new object";
        CoracleMakers x = new CoracleMakers();
        counts(x, 0, 12, 50, 0, 0, 0, 0, 64, 0, 0, 3, 3, 3);
        for (int r = 0; r < 16; r++) {
            is("salmon", x.reach(r, 0), 4);
            is("coracles", x.reach(r, 1), 0);
        }
        for (int h = 0; h < 8; h++) {
            is("drift", x.setDrift(h, 1), 1);
            is("run", x.setRun(h, 3), 3);
        }
        fails(x, "about(0, 0)", INDEX, () -> x.about(0, 0));
        fails(x, "told(0, 0)", INDEX, () -> x.told(0, 0));
        x.make(4, 0, 1);
        x.setDrift(0, 5);
        x.pass(4);
        CoracleMakers other = new CoracleMakers();
        counts(other, 0, 12, 50, 0, 0, 0, 0, 64, 0, 0, 3, 3, 3);
        is("drift of another object", other.setDrift(0, 1), 1);
    }

    private static void setDrift() {
        promise = "2 setDrift";
        CoracleMakers x = new CoracleMakers();
        is("setDrift(0, 5)", x.setDrift(0, 5), 1);
        is("setDrift(0, 5) again", x.setDrift(0, 5), 5);
        is("setDrift(1, 0)", x.setDrift(1, 0), 1);
        is("setDrift(7, 3)", x.setDrift(7, 3), 1);
        x.make(12, 0, 1);
        int[] want = {4, 3, 3, 3, 3, 3, 3, 5, 9, 8};
        for (int h = 0; h < want.length; h++) {
            x.pass(1);
            is("reach behind hour " + h, x.about(0, 3), want[h]);
        }
        for (int hour : new int[] {-1, 8, FAR[0], FAR[1]}) {
            fails(x, "setDrift(" + hour + ", 1)", INDEX, () -> x.setDrift(hour, 1));
            fails(x, "setDrift(" + hour + ", 9)", INDEX, () -> x.setDrift(hour, 9));
        }
        for (int by : new int[] {-1, 6, FAR[0], FAR[1]}) {
            fails(x, "setDrift(0, " + by + ")", ARGUMENT, () -> x.setDrift(0, by));
        }
    }

    private static void setRun() {
        promise = "3 setRun";
        CoracleMakers x = new CoracleMakers();
        is("setRun(0, 9)", x.setRun(0, 9), 3);
        is("setRun(0, 9) again", x.setRun(0, 9), 9);
        is("setRun(1, 0)", x.setRun(1, 0), 3);
        is("setRun(7, 5)", x.setRun(7, 5), 3);
        int[] want = {13, 13, 16, 11, 14, 17, 20, 15, 24, 24};
        for (int h = 0; h < want.length; h++) {
            x.pass(1);
            is("salmon at the mouth behind hour " + h, x.reach(15, 0), want[h]);
        }
        for (int hour : new int[] {-1, 8, FAR[0], FAR[1]}) {
            fails(x, "setRun(" + hour + ", 1)", INDEX, () -> x.setRun(hour, 1));
            fails(x, "setRun(" + hour + ", 10)", INDEX, () -> x.setRun(hour, 10));
        }
        for (int many : new int[] {-1, 10, FAR[0], FAR[1]}) {
            fails(x, "setRun(0, " + many + ")", ARGUMENT, () -> x.setRun(0, many));
        }
    }

    private static void buy() {
        promise = "4 buy";
        CoracleMakers x = new CoracleMakers();
        is("buy(0, 1)", x.buy(0, 1), 4);
        is("coins", x.count(1), 8);
        is("buy(1, 1)", x.buy(1, 1), 4);
        is("coins", x.count(1), 5);
        is("buy(2, 2)", x.buy(2, 2), 5);
        is("coins", x.count(1), 3);
        fails(x, "buy(0, 1) for 3 coins", STATE, () -> x.buy(0, 1));
        fails(x, "buy(3, 4) for 3 coins", STATE, () -> x.buy(3, 4));
        is("buy(3, 3)", x.buy(3, 3), 53);
        counts(x, 0, 0, 53, 0, 0, 0, 0, 64, 0, 0, 4, 4, 5);
        fails(x, "buy(2, 1) without coins", STATE, () -> x.buy(2, 1));
        CoracleMakers y = new CoracleMakers();
        is("buy(1, 4)", y.buy(1, 4), 7);
        is("coins", y.count(1), 0);
        fails(y, "buy(3, 40)", STATE, () -> y.buy(3, 40));
        for (int many : new int[] {0, -1, 41, FAR[0], FAR[1]}) {
            fails(y, "buy(0, " + many + ")", ARGUMENT, () -> y.buy(0, many));
        }
        for (int what : new int[] {-1, 4, FAR[0], FAR[1]}) {
            fails(y, "buy(" + what + ", 1)", INDEX, () -> y.buy(what, 1));
            fails(y, "buy(" + what + ", 0)", INDEX, () -> y.buy(what, 0));
        }
        buyMost();
    }

    /** Two full loads of 12 and the first 12 coins are 60 coins, enough for the most that a call may buy. */
    private static void buyMost() {
        CoracleMakers x = stillWater();
        allRuns(x, 9);
        x.make(12, 0, 6);
        x.make(12, 0, 6);
        x.net(0, 1);
        x.send(0, 15);
        x.send(1, 15);
        x.pass(8);
        x.send(0, 0);
        x.send(1, 0);
        x.pass(3);
        is("land(0)", x.land(0), 24);
        is("land(1)", x.land(1), 24);
        is("buy(3, 40)", x.buy(3, 40), 66);
        is("coins", x.count(1), 20);
    }

    private static void make() {
        promise = "5 make";
        CoracleMakers x = new CoracleMakers();
        is("make(4, 0, 1)", x.make(4, 0, 1), 0);
        abouts(x, 0, 4, 0, 1, 0, 0, 30, 0, 0, 1, -1);
        is("make(12, 2, 6)", x.make(12, 2, 6), 1);
        abouts(x, 1, 12, 2, 6, 0, 0, 30, 0, 0, 1, -1);
        abouts(x, 0, 4, 0, 1, 0, 0, 30, 0, 0, 1, -1);
        counts(x, 0, 12, 34, 2, 2, 0, 0, 64, 0, 0, 2, 3, 2);
        for (int hide : new int[] {-1, 3, FAR[0], FAR[1]}) {
            fails(x, "make(5, " + hide + ", 1)", INDEX, () -> x.make(5, hide, 1));
            fails(x, "make(3, " + hide + ", 0)", INDEX, () -> x.make(3, hide, 0));
        }
        for (int laths : new int[] {3, 13, 0, -4, FAR[0], FAR[1]}) {
            fails(x, "make(" + laths + ", 0, 1)", ARGUMENT, () -> x.make(laths, 0, 1));
        }
        for (int skill : new int[] {0, 7, -1, FAR[0], FAR[1]}) {
            fails(x, "make(5, 0, " + skill + ")", ARGUMENT, () -> x.make(5, 0, skill));
        }
        makeSix();
        makeOutOfStores();
    }

    private static void makeSix() {
        CoracleMakers x = new CoracleMakers();
        for (int i = 0; i < 6; i++) {
            is("make of number " + i, x.make(4, i / 2, i + 1), i);
        }
        counts(x, 0, 12, 26, 6, 6, 0, 0, 64, 0, 0, 1, 1, 1);
        is("skill of the sixth", x.about(5, 2), 6);
        fails(x, "make of a seventh", STATE, () -> x.make(4, 0, 1));
        fails(x, "make of a seventh of 3 laths", ARGUMENT, () -> x.make(3, 0, 1));
        x.pass(40);
        fails(x, "make of a seventh with all sunk", STATE, () -> x.make(4, 0, 1));
    }

    private static void makeOutOfStores() {
        CoracleMakers x = new CoracleMakers();
        x.make(12, 2, 1);
        x.make(12, 2, 1);
        x.make(12, 2, 1);
        fails(x, "make without a calico hide", STATE, () -> x.make(4, 2, 1));
        x.buy(2, 1);
        is("make with a bought hide", x.make(9, 2, 1), 3);
        fails(x, "make of 6 laths out of 5", STATE, () -> x.make(6, 0, 1));
        is("make of 5 laths out of 5", x.make(5, 0, 1), 4);
        fails(x, "make without laths", STATE, () -> x.make(4, 0, 1));
        x.buy(3, 4);
        is("make with bought laths", x.make(4, 1, 1), 5);
        is("laths", x.count(2), 0);
    }

    private static void net() {
        promise = "6 net";
        CoracleMakers x = new CoracleMakers();
        x.make(4, 2, 1);
        for (int i = 1; i < 6; i++) {
            x.make(4, i % 2, 1);
        }
        is("net(4, 1)", x.net(4, 1), 0);
        is("partner of 4", x.about(4, 9), 1);
        is("partner of 1", x.about(1, 9), 4);
        is("partner of 0", x.about(0, 9), -1);
        is("first", x.told(0, 0), 4);
        is("second", x.told(0, 1), 1);
        for (int none : new int[] {-1, 6, FAR[0], FAR[1]}) {
            fails(x, "net(0, " + none + ")", INDEX, () -> x.net(0, none));
            fails(x, "net(" + none + ", 0)", INDEX, () -> x.net(none, 0));
            fails(x, "net(" + none + ", " + none + ")", INDEX, () -> x.net(none, none));
            fails(x, "net(4, " + none + ")", INDEX, () -> x.net(4, none));
        }
        fails(x, "net(0, 0)", ARGUMENT, () -> x.net(0, 0));
        fails(x, "net(4, 4)", ARGUMENT, () -> x.net(4, 4));
        fails(x, "net(4, 0)", STATE, () -> x.net(4, 0));
        fails(x, "net(0, 1)", STATE, () -> x.net(0, 1));
        fails(x, "net(1, 4)", STATE, () -> x.net(1, 4));
        x.send(0, 9);
        x.pass(26);
        is("afloat of 0", x.about(0, 8), 0);
        is("net of a sunk one, elsewhere", x.net(0, 2), 1);
        is("partner of the sunk one", x.about(0, 9), 2);
        fails(x, "net of a sunk one with a net", STATE, () -> x.net(3, 0));
        is("third net", x.net(3, 5), 2);
        is("first of the third net", x.told(2, 0), 3);
        is("second of the third net", x.told(2, 1), 5);
        is("first of the first net", x.told(0, 0), 4);
        is("nets", x.count(5), 3);
    }

    private static void send() {
        promise = "7 send";
        CoracleMakers x = withOneSunk();
        is("send(1, 15)", x.send(1, 15), 0);
        is("send(1, 3)", x.send(1, 3), 15);
        is("goal", x.about(1, 4), 3);
        is("reach", x.about(1, 3), 0);
        is("send(0, 5) of a sunk one", x.send(0, 5), 0);
        is("goal of the sunk one", x.about(0, 4), 5);
        x.pass(2);
        is("reach of the sunk one", x.about(0, 3), 0);
        is("reach", x.about(1, 3), 2);
        is("send(1, 0)", x.send(1, 0), 3);
        for (int none : new int[] {-1, 2, 6, FAR[0], FAR[1]}) {
            fails(x, "send(" + none + ", 0)", INDEX, () -> x.send(none, 0));
        }
        for (int goal : new int[] {-1, 16, FAR[0], FAR[1]}) {
            fails(x, "send(1, " + goal + ")", INDEX, () -> x.send(1, goal));
        }
    }

    private static void tar() {
        promise = "8 tar";
        CoracleMakers x = new CoracleMakers();
        x.make(12, 2, 1);
        is("tar of a new one", x.tar(0), 0);
        is("coins", x.count(1), 9);
        x.pass(24);
        is("tar", x.about(0, 5), 6);
        is("water", x.about(0, 6), 4);
        is("tar(0)", x.tar(0), 4);
        abouts(x, 0, 12, 2, 1, 0, 0, 30, 0, 0, 1, -1);
        is("coins", x.count(1), 6);
        x.buy(3, 3);
        is("tar for the last 3 coins", x.tar(0), 0);
        fails(x, "tar without coins", STATE, () -> x.tar(0));
        for (int none : new int[] {-1, 1, 6, FAR[0], FAR[1]}) {
            fails(x, "tar(" + none + ")", INDEX, () -> x.tar(none));
        }
        CoracleMakers y = withOneSunk();
        fails(y, "tar of a sunk one", STATE, () -> y.tar(0));
        y.send(1, 1);
        y.pass(1);
        fails(y, "tar at the reach 1", STATE, () -> y.tar(1));
        CoracleMakers z = new CoracleMakers();
        z.make(4, 0, 1);
        z.buy(3, 10);
        fails(z, "tar for 2 coins", STATE, () -> z.tar(0));
    }

    private static void land() {
        promise = "9 land";
        CoracleMakers x = new CoracleMakers();
        x.make(8, 0, 1);
        x.make(8, 1, 1);
        x.net(1, 0);
        is("land of nothing", x.land(0), 0);
        is("pass(1)", x.pass(1), 3);
        is("land(1)", x.land(1), 4);
        counts(x, 1, 16, 34, 2, 2, 1, 1, 64, 2, 0, 2, 2, 3);
        is("land(0)", x.land(0), 2);
        is("load", x.about(0, 7), 0);
        is("coins", x.count(1), 18);
        is("sold", x.count(8), 3);
        is("land(0) again", x.land(0), 0);
        x.send(0, 1);
        x.pass(1);
        fails(x, "land at the reach 1", STATE, () -> x.land(0));
        for (int none : new int[] {-1, 2, 6, FAR[0], FAR[1]}) {
            fails(x, "land(" + none + ")", INDEX, () -> x.land(none));
        }
        CoracleMakers y = withOneSunk();
        fails(y, "land of a sunk one", STATE, () -> y.land(0));
    }

    private static void about() {
        promise = "10 about";
        CoracleMakers x = new CoracleMakers();
        x.make(4, 2, 3);
        x.make(9, 1, 5);
        x.make(6, 0, 2);
        x.net(2, 1);
        x.send(0, 14);
        x.send(1, 6);
        x.send(2, 3);
        x.pass(1);
        abouts(x, 0, 4, 2, 3, 4, 14, 29, 0, 0, 1, -1);
        abouts(x, 1, 9, 1, 5, 6, 6, 29, 0, 0, 1, 2);
        abouts(x, 2, 6, 0, 2, 3, 3, 29, 0, 0, 1, 1);
        x.send(1, 3);
        x.pass(1);
        abouts(x, 1, 9, 1, 5, 3, 3, 28, 0, 2, 1, 2);
        abouts(x, 2, 6, 0, 2, 3, 3, 28, 0, 2, 1, 1);
        x.pass(24);
        abouts(x, 0, 4, 2, 3, 14, 14, 4, 8, 0, 0, -1);
        for (int none : new int[] {-1, 3, 6, FAR[0], FAR[1]}) {
            fails(x, "about(" + none + ", 0)", INDEX, () -> x.about(none, 0));
        }
        for (int what : new int[] {-1, 10, FAR[0], FAR[1]}) {
            fails(x, "about(0, " + what + ")", INDEX, () -> x.about(0, what));
        }
    }

    private static void told() {
        promise = "11 told";
        CoracleMakers x = new CoracleMakers();
        for (int i = 0; i < 4; i++) {
            x.make(4, i % 3, i + 1);
        }
        x.net(3, 0);
        x.net(1, 2);
        is("told(0, 0)", x.told(0, 0), 3);
        is("told(0, 1)", x.told(0, 1), 0);
        is("told(0, 2)", x.told(0, 2), 0);
        is("told(0, 3), by the lesser skill 1", x.told(0, 3), 3);
        is("told(1, 0)", x.told(1, 0), 1);
        is("told(1, 1)", x.told(1, 1), 2);
        is("told(1, 3), by the salmon", x.told(1, 3), 4);
        x.pass(1);
        is("told(0, 2)", x.told(0, 2), 3);
        is("told(1, 2)", x.told(1, 2), 1);
        is("told(0, 3) without salmon", x.told(0, 3), 0);
        x.send(3, 1);
        x.send(0, 1);
        x.pass(1);
        is("told(0, 2)", x.told(0, 2), 6);
        is("told(0, 3) by one salmon", x.told(0, 3), 1);
        x.send(0, 0);
        x.send(3, 5);
        x.pass(1);
        is("told(0, 3) apart", x.told(0, 3), 0);
        is("told(0, 2)", x.told(0, 2), 6);
        for (int none : new int[] {-1, 2, 3, FAR[0], FAR[1]}) {
            fails(x, "told(" + none + ", 0)", INDEX, () -> x.told(none, 0));
        }
        for (int what : new int[] {-1, 4, FAR[0], FAR[1]}) {
            fails(x, "told(0, " + what + ")", INDEX, () -> x.told(0, what));
        }
        toldOfSunk();
    }

    private static void toldOfSunk() {
        CoracleMakers x = withOneSunk();
        x.net(1, 0);
        is("salmon at the market", x.reach(0, 0) > 0 ? 1 : 0, 1);
        is("told(0, 3), the second sunk", x.told(0, 3), 0);
        is("pass(1)", x.pass(1), 0);
        CoracleMakers y = withOneSunk();
        y.net(0, 1);
        is("told(0, 3), the first sunk", y.told(0, 3), 0);
        is("pass(1)", y.pass(1), 0);
    }

    private static void reach() {
        promise = "12 reach";
        CoracleMakers x = withOneSunk();
        is("reach(0, 1)", x.reach(0, 1), 1);
        x.make(5, 0, 6);
        x.make(5, 0, 6);
        is("reach(0, 1)", x.reach(0, 1), 3);
        x.send(2, 6);
        x.send(3, 6);
        x.pass(1);
        is("reach(0, 1)", x.reach(0, 1), 1);
        is("reach(6, 1)", x.reach(6, 1), 2);
        is("reach(15, 1)", x.reach(15, 1), 0);
        for (int none : new int[] {-1, 16, FAR[0], FAR[1]}) {
            fails(x, "reach(" + none + ", 0)", INDEX, () -> x.reach(none, 0));
        }
        for (int what : new int[] {-1, 2, FAR[0], FAR[1]}) {
            fails(x, "reach(0, " + what + ")", INDEX, () -> x.reach(0, what));
        }
    }

    private static void count() {
        promise = "13 count";
        CoracleMakers x = new CoracleMakers();
        x.make(4, 2, 1);
        x.make(8, 1, 1);
        x.make(8, 1, 1);
        x.net(1, 2);
        x.buy(0, 1);
        x.pass(1);
        counts(x, 1, 8, 30, 3, 3, 1, 3, 64, 0, 0, 4, 1, 2);
        x.land(2);
        x.pass(3);
        counts(x, 4, 10, 30, 3, 3, 1, 3, 72, 1, 0, 4, 1, 2);
        x.pass(22);
        is("made", x.count(3), 3);
        is("afloat", x.count(4), 2);
        for (int what : new int[] {-1, 13, FAR[0], FAR[1]}) {
            fails(x, "count(" + what + ")", INDEX, () -> x.count(what));
        }
    }

    private static void passMoves() {
        promise = "14 pass, moves";
        CoracleMakers x = new CoracleMakers();
        x.make(12, 0, 6);
        x.make(12, 0, 3);
        x.make(12, 0, 1);
        allDrifts(x, 5);
        x.send(0, 15);
        x.send(1, 2);
        int[][] want = {{11, 2, 4}, {15, 4, 8}, {15, 6, 12}, {15, 8, 14}, {15, 10, 14}};
        for (int h = 0; h < want.length; h++) {
            x.pass(1);
            for (int c = 0; c < 3; c++) {
                is("reach of " + c + " behind hour " + h, x.about(c, 3), want[h][c]);
            }
        }
        allDrifts(x, 2);
        x.send(0, 12);
        x.pass(1);
        is("up, no farther", x.about(0, 3), 12);
        is("up by the skill", x.about(1, 3), 9);
        allDrifts(x, 0);
        x.send(0, 14);
        x.pass(2);
        is("down, no farther", x.about(0, 3), 14);
        is("hour", x.count(0), 8);
    }

    private static void passCatches() {
        promise = "14 pass, catches";
        CoracleMakers x = new CoracleMakers();
        allDrifts(x, 5);
        x.make(12, 0, 6);
        x.make(4, 0, 6);
        x.net(0, 1);
        fillLoads(x, new int[][] {{4, 2, 2}, {7, 7, 4}, {3, 10, 4}, {2, 12, 4}, {0, 12, 4}});
        salmonOfTheMouth(x);
        CoracleMakers y = new CoracleMakers();
        allDrifts(y, 5);
        y.make(4, 0, 6);
        y.make(12, 0, 6);
        y.net(0, 1);
        fillLoads(y, new int[][] {{4, 2, 2}, {7, 4, 7}, {3, 4, 10}, {2, 4, 12}, {0, 4, 12}});
        passNetsByNumbers();
        passAtTheEnd();
        passOfTwoSkills(4, 2);
        passOfTwoSkills(2, 4);
    }

    /** Rows: what the hour caught, and the loads of the two then. */
    private static void fillLoads(CoracleMakers x, int[][] rows) {
        x.send(0, 15);
        x.send(1, 15);
        int all = 0;
        for (int h = 0; h < rows.length; h++) {
            is("caught in hour " + h, x.pass(1), rows[h][0]);
            is("load of 0 behind hour " + h, x.about(0, 7), rows[h][1]);
            is("load of 1 behind hour " + h, x.about(1, 7), rows[h][2]);
            all += rows[h][0];
            is("told behind hour " + h, x.told(0, 2), all);
        }
    }

    private static void salmonOfTheMouth(CoracleMakers x) {
        is("salmon at the mouth", x.reach(15, 0), 7);
        is("salmon at the reach 11, caught ahead of the climb", x.reach(11, 0), 2);
        is("salmon at the reach 10", x.reach(10, 0), 2);
    }

    private static void passNetsByNumbers() {
        CoracleMakers x = new CoracleMakers();
        for (int i = 0; i < 4; i++) {
            x.make(6, i % 3, 1);
        }
        x.net(3, 2);
        x.net(0, 1);
        is("pass(1)", x.pass(1), 4);
        is("first of the first net", x.about(3, 7), 2);
        is("second of the first net", x.about(2, 7), 1);
        is("first of the second net", x.about(0, 7), 1);
        is("second of the second net", x.about(1, 7), 0);
        is("salmon at the market", x.reach(0, 0), 0);
        is("load of all", x.count(6), 4);
    }

    /** A net catches ahead of the sinking in the same hour, and what was caught stays told. */
    private static void passAtTheEnd() {
        CoracleMakers x = stillWater();
        x.make(4, 2, 6);
        x.make(12, 0, 6);
        x.net(0, 1);
        x.pass(25);
        x.land(0);
        x.land(1);
        x.send(0, 4);
        x.send(1, 4);
        int load = x.about(1, 7);
        int told = x.told(0, 2);
        int room = 4 - x.about(0, 7) + 12 - load;
        int due = Math.min(room, Math.min(8, x.reach(4, 0)));
        is("due", due > 0 ? 1 : 0, 1);
        is("pass(1)", x.pass(1), due);
        is("afloat", x.about(0, 8), 0);
        is("load lost", x.about(0, 7), 0);
        is("tar stays", x.about(0, 5), 4);
        is("water stays", x.about(0, 6), 8);
        is("net stays", x.about(0, 9), 1);
        is("net of the other stays", x.about(1, 9), 0);
        is("told stays", x.told(0, 2), told + due);
        x.pass(3);
        is("tar of the sunk one", x.about(0, 5), 4);
        is("water of the sunk one", x.about(0, 6), 8);
        is("told stays", x.told(0, 2), told + due);
    }

    private static void passOfTwoSkills(int skill, int other) {
        CoracleMakers x = stillWater();
        allRuns(x, 9);
        x.make(12, 0, skill);
        x.make(12, 0, other);
        x.net(0, 1);
        x.send(0, 15);
        x.send(1, 15);
        is("pass(7)", x.pass(7), 0);
        is("pass(1), by the lesser skill, 2 more", x.pass(1), 4);
        is("pass(4)", x.pass(4), 16);
        is("pass(10), until both are full", x.pass(10), 4);
    }

    private static void passLeaks() {
        promise = "14 pass, leaks";
        CoracleMakers x = stillWater();
        x.make(12, 0, 1);
        x.make(12, 1, 1);
        x.make(12, 2, 1);
        x.make(4, 0, 1);
        x.make(4, 1, 1);
        int[] ox = new int[61];
        int[] horse = new int[61];
        int[] calico = new int[61];
        for (int h = 1; h <= 60; h++) {
            ox[h] = Math.min(24, Math.max(0, h - 29));
            horse[h] = Math.min(24, Math.max(0, h - 22));
            calico[h] = h < 23 ? 0 : h < 30 ? 2 * (h - 22) : Math.min(26, 14 + 3 * (h - 29));
        }
        for (int h = 1; h <= 60; h++) {
            x.pass(1);
            is("water under ox behind " + h, x.about(0, 6), ox[h]);
            is("water under horse behind " + h, x.about(1, 6), horse[h]);
            is("water under calico behind " + h, x.about(2, 6), calico[h]);
            is("ox afloat behind " + h, x.about(0, 8), h < 53 ? 1 : 0);
            is("horse afloat behind " + h, x.about(1, 8), h < 46 ? 1 : 0);
            is("calico afloat behind " + h, x.about(2, 8), h < 33 ? 1 : 0);
            is("small ox afloat behind " + h, x.about(3, 8), h < 37 ? 1 : 0);
            is("small horse afloat behind " + h, x.about(4, 8), h < 30 ? 1 : 0);
            is("tar behind " + h, x.about(0, 5), Math.max(0, 30 - h));
        }
    }

    private static void passClimbs() {
        promise = "14 pass, climbs";
        CoracleMakers x = new CoracleMakers();
        x.pass(3);
        salmon(x, 4, 4, 4, 4, 4, 4, 4, 4, 4, 4, 4, 4, 4, 4, 4, 13);
        is("spawned", x.count(9), 0);
        x.pass(1);
        salmon(x, 4, 4, 4, 4, 4, 4, 4, 4, 4, 4, 4, 4, 4, 4, 8, 10);
        is("spawned", x.count(9), 2);
        is("all salmon", x.count(7), 74);
        x.pass(4);
        salmon(x, 4, 4, 4, 4, 4, 4, 4, 4, 4, 4, 4, 4, 4, 6, 13, 13);
        is("spawned", x.count(9), 4);
        CoracleMakers y = new CoracleMakers();
        allRuns(y, 9);
        y.pass(10);
        is("mouth", y.reach(15, 0), 53);
        y.pass(1);
        is("mouth, at most 60", y.reach(15, 0), 60);
        y.pass(1);
        is("mouth", y.reach(15, 0), 39);
        is("reach 14", y.reach(14, 0), 48);
        for (int i = 0; i < 8; i++) {
            y.pass(40);
            y.pass(3);
            for (int r = 0; r < 16; r++) {
                is("salmon at most 60", y.reach(r, 0) <= 60 ? 1 : 0, 1);
            }
        }
    }

    private static void passWrong() {
        promise = "14 pass";
        CoracleMakers x = new CoracleMakers();
        for (int hours : new int[] {0, -1, 41, FAR[0], FAR[1]}) {
            fails(x, "pass(" + hours + ")", ARGUMENT, () -> x.pass(hours));
        }
        is("pass(40) without nets", x.pass(40), 0);
        is("hour", x.count(0), 40);
        CoracleMakers y = new CoracleMakers();
        CoracleMakers z = new CoracleMakers();
        for (CoracleMakers made : new CoracleMakers[] {y, z}) {
            made.make(9, 2, 2);
            made.make(5, 0, 3);
            made.net(0, 1);
            made.send(0, 7);
            made.send(1, 7);
        }
        int caught = 0;
        for (int h = 0; h < 17; h++) {
            caught += y.pass(1);
        }
        is("pass(17)", z.pass(17), caught);
        is("digest", z.digest(), y.digest());
    }

    private static void meets() {
        promise = "15 meets";
        CoracleMakers x = new CoracleMakers();
        x.make(12, 0, 1);
        x.make(12, 0, 6);
        x.net(0, 1);
        is("meets(0) now", x.meets(0), 0);
        x.send(0, 15);
        x.pass(1);
        is("reach of 0", x.about(0, 3), 2);
        x.send(1, 15);
        long before = x.digest();
        is("meets(0) at the mouth", x.meets(0), 7);
        is("digest", x.digest(), before);
        x.send(1, 4);
        is("meets(0) on the way", x.meets(0), 1);
        x.send(1, 3);
        is("meets(0), passing between", x.meets(0), -1);
        for (int none : new int[] {-1, 1, 3, FAR[0], FAR[1]}) {
            fails(x, "meets(" + none + ")", INDEX, () -> x.meets(none));
        }
        meetsNoMore();
    }

    private static void meetsNoMore() {
        CoracleMakers x = stillWater();
        x.make(4, 2, 1);
        x.make(12, 0, 1);
        x.net(0, 1);
        x.send(1, 1);
        x.pass(25);
        is("one hour from sinking", x.sinks(0), 1);
        x.send(1, 0);
        is("meets(0) as it sinks", x.meets(0), -1);
        x.pass(1);
        is("both at the market", x.about(0, 3) + x.about(1, 3), 0);
        is("meets(0), sunk", x.meets(0), -1);
        CoracleMakers y = stillWater();
        y.make(4, 2, 1);
        y.make(12, 0, 1);
        y.net(1, 0);
        y.send(1, 1);
        y.pass(24);
        y.send(1, 0);
        is("meets(0) one hour ahead of sinking", y.meets(0), 1);
    }

    private static void sinks() {
        promise = "16 sinks";
        int[][] rows = {{12, 0, 53}, {4, 0, 37}, {12, 1, 46}, {4, 1, 30}, {12, 2, 33}, {7, 2, 29}, {8, 2, 30}, {4, 2, 26}};
        for (int[] row : rows) {
            CoracleMakers x = new CoracleMakers();
            x.make(row[0], row[1], 1);
            long before = x.digest();
            is("sinks(0) of hide " + row[1] + ", laths " + row[0], x.sinks(0), row[2]);
            is("digest", x.digest(), before);
            x.pass(20);
            is("sinks(0) 20 hours on", x.sinks(0), row[2] - 20);
            x.tar(0);
            is("sinks(0) tarred", x.sinks(0), row[2]);
            x.pass(row[2] > 40 ? 40 : row[2]);
            is("sinks(0) later", x.sinks(0), Math.max(0, row[2] - 40));
        }
        CoracleMakers x = withOneSunk();
        is("sinks(0) of a sunk one", x.sinks(0), 0);
        is("sinks(1)", x.sinks(1), 27);
        for (int none : new int[] {-1, 2, 6, FAR[0], FAR[1]}) {
            fails(x, "sinks(" + none + ")", INDEX, () -> x.sinks(none));
        }
    }

    private static CoracleMakers fishing() {
        CoracleMakers x = new CoracleMakers();
        x.setDrift(3, 4);
        x.setRun(6, 8);
        x.make(5, 2, 3);
        x.make(9, 1, 2);
        x.make(7, 0, 5);
        x.net(0, 1);
        x.pass(1);
        x.land(0);
        x.send(0, 7);
        x.send(1, 7);
        x.send(2, 3);
        return x;
    }

    private static void foresee() {
        promise = "17 foresee";
        CoracleMakers x = fishing();
        long before = x.digest();
        for (int hours = 1; hours <= 40; hours++) {
            CoracleMakers twin = fishing();
            twin.pass(hours);
            for (int what = 0; what < 13; what++) {
                is("foresee(" + hours + ", " + what + ")", x.foresee(hours, what), twin.count(what));
            }
        }
        is("digest", x.digest(), before);
        is("foresee(40, 0)", x.foresee(40, 0), 41);
        for (int hours : new int[] {0, -1, 41, FAR[0], FAR[1]}) {
            fails(x, "foresee(" + hours + ", 0)", ARGUMENT, () -> x.foresee(hours, 0));
            fails(x, "foresee(" + hours + ", 13)", ARGUMENT, () -> x.foresee(hours, 13));
        }
        for (int what : new int[] {-1, 13, FAR[0], FAR[1]}) {
            fails(x, "foresee(1, " + what + ")", INDEX, () -> x.foresee(1, what));
        }
    }

    private static void advise() {
        promise = "18 advise";
        CoracleMakers x = new CoracleMakers();
        x.make(12, 0, 6);
        x.make(12, 0, 6);
        x.make(4, 2, 1);
        x.make(4, 2, 1);
        x.net(0, 1);
        x.net(2, 3);
        x.send(0, 9);
        long before = x.digest();
        is("advise(0, 1), all alike", x.advise(0, 1), 0);
        is("digest", x.digest(), before);
        x.send(0, 0);
        x.pass(1);
        is("advise(0, 1), the market is empty", x.advise(0, 1), 1);
        is("advise(1, 1), the market is empty", x.advise(1, 1), 1);
        is("goal", x.about(0, 4), 0);
        for (int net = 0; net < 2; net++) {
            for (int hours = 1; hours <= 10; hours++) {
                is("advise(" + net + ", " + hours + ")", x.advise(net, hours), advisedByTrying(net, hours));
            }
        }
        x.pass(26);
        is("advise of a sunk net", x.advise(1, 10), 0);
        for (int none : new int[] {-1, 2, 3, FAR[0], FAR[1]}) {
            fails(x, "advise(" + none + ", 1)", INDEX, () -> x.advise(none, 1));
            fails(x, "advise(" + none + ", 0)", INDEX, () -> x.advise(none, 0));
        }
        for (int hours : new int[] {0, -1, 11, FAR[0], FAR[1]}) {
            fails(x, "advise(0, " + hours + ")", ARGUMENT, () -> x.advise(0, hours));
        }
        adviseTheMouth();
    }

    private static int advisedByTrying(int net, int hours) {
        int best = 0;
        int most = -1;
        for (int goal = 0; goal < 16; goal++) {
            CoracleMakers x = new CoracleMakers();
            x.make(12, 0, 6);
            x.make(12, 0, 6);
            x.make(4, 2, 1);
            x.make(4, 2, 1);
            x.net(0, 1);
            x.net(2, 3);
            x.pass(1);
            x.send(2 * net, goal);
            x.send(2 * net + 1, goal);
            x.pass(hours);
            if (x.told(net, 2) > most) {
                most = x.told(net, 2);
                best = goal;
            }
        }
        return best;
    }

    /** Salmon at the mouth alone are worth going all the way. */
    private static void adviseTheMouth() {
        CoracleMakers x = stillWater();
        allRuns(x, 9);
        x.make(12, 0, 6);
        x.make(12, 0, 6);
        x.net(1, 0);
        is("advise(0, 3): 4 at 6, 4 at 12 and 8 at 15", x.advise(0, 3), 15);
        is("advise(0, 2): 4 at 6 and 4 at 7", x.advise(0, 2), 7);
    }

    private static void mean() {
        promise = "19 mean";
        CoracleMakers x = stillWater();
        isDouble("mean() without any", x.mean(), 0.0);
        x.make(4, 2, 1);
        isDouble("mean() of a new one", x.mean(), 30.0);
        x.pass(1);
        x.make(12, 0, 1);
        isDouble("mean() of two", x.mean(), 29.5);
        x.make(12, 0, 1);
        isDouble("mean() of three", x.mean(), 89.0 / 3.0);
        x.pass(39);
        is("tar of the sunk one", x.about(0, 5), 4);
        isDouble("mean() with a sunk one", x.mean(), 4.0 / 3.0);
    }

    private static long digestByHand(CoracleMakers x, int[] drifts, int[] runs) {
        long d = 1487L;
        for (int what = 0; what < 13; what++) {
            d = d * 31 + x.count(what);
        }
        for (int h = 0; h < 8; h++) {
            d = d * 31 + drifts[h];
            d = d * 31 + runs[h];
        }
        for (int c = 0; c < x.count(3); c++) {
            for (int what = 0; what < 10; what++) {
                d = d * 31 + x.about(c, what);
            }
        }
        for (int n = 0; n < x.count(5); n++) {
            for (int what = 0; what < 4; what++) {
                d = d * 31 + x.told(n, what);
            }
        }
        for (int r = 0; r < 16; r++) {
            d = d * 31 + x.reach(r, 0);
            d = d * 31 + x.reach(r, 1);
        }
        return d;
    }

    private static void digest() {
        promise = "20 digest";
        int[] drifts = {1, 1, 1, 1, 1, 1, 1, 1};
        int[] runs = {3, 3, 3, 3, 3, 3, 3, 3};
        CoracleMakers x = new CoracleMakers();
        is("digest() of a new one", x.digest(), digestByHand(x, drifts, runs));
        x.setDrift(7, 5);
        drifts[7] = 5;
        x.setRun(0, 9);
        runs[0] = 9;
        for (int i = 0; i < 6; i++) {
            x.make(4 + i, i / 2, 6 - i);
            x.send(i, 2 * i);
            is("digest() of " + (i + 1) + " coracles", x.digest(), digestByHand(x, drifts, runs));
        }
        x.net(4, 1);
        x.net(0, 5);
        for (int h = 0; h < 60; h++) {
            x.pass(1);
            is("digest() behind hour " + h, x.digest(), digestByHand(x, drifts, runs));
        }
        is("digest() again", x.digest(), x.digest());
    }
}
