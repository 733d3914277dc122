/** What the tests of the project share: how an answer is held against the one that is due, and rivers to begin with. */
abstract class Checks {
    static final Class<?> INDEX = IndexOutOfBoundsException.class;
    static final Class<?> ARGUMENT = IllegalArgumentException.class;
    static final Class<?> STATE = IllegalStateException.class;

    private static int wrong = 0;
    private static int tests = 0;
    private static String tested = "";

    interface Call {
        void run();
    }

    /** Begins a test, of a promise or of a sentence of the document. */
    static void test(String what) {
        tests++;
        tested = what;
    }

    static void end() {
        System.out.println(wrong == 0 ? tests + " tests hold" : wrong + " answers are wrong");
        if (wrong != 0) {
            System.exit(1);
        }
    }

    static boolean isWrongOften() {
        return wrong >= 20;
    }

    private static void tellWrong(String what, Object got, Object want) {
        wrong++;
        System.out.println(tested + ": " + what + " answered " + got + ", due is " + want);
    }

    static void is(String what, long got, long want) {
        if (got != want) {
            tellWrong(what, got, want);
        }
    }

    static void isDouble(String what, double got, double want) {
        if (Double.compare(got, want) != 0) {
            tellWrong(what, got, want);
        }
    }

    static void isText(String what, String got, String want) {
        if (!got.equals(want)) {
            tellWrong(what, got, want);
        }
    }

    /** Three calls of x: the digest tells whether the one that throws has changed something. */
    static void fails(CoracleMakers x, String what, Class<?> want, Call call) {
        long before = x.digest();
        Object got = "nothing";
        try {
            call.run();
        } catch (RuntimeException e) {
            got = e.getClass();
        }
        if (got != want) {
            tellWrong(what, got, want);
        }
        is("digest after " + what + " that throws", x.digest(), before);
    }

    /** The numbers nearest to what is allowed, and the farthest ones. */
    static int[] outside(int least, int most) {
        return new int[] {least - 1, most + 1, Integer.MIN_VALUE, Integer.MAX_VALUE};
    }

    static void allDrifts(CoracleMakers x, int by) {
        for (int h = 0; h < 8; h++) {
            x.setDrift(h, by);
        }
    }

    static void allRuns(CoracleMakers x, int many) {
        for (int h = 0; h < 8; h++) {
            x.setRun(h, many);
        }
    }

    static CoracleMakers stillWater() {
        CoracleMakers x = new CoracleMakers();
        allDrifts(x, 0);
        return x;
    }

    /** Still water with the coracles 0 and 1 at the market, of ox hides, and the net 0 between them. */
    static CoracleMakers stillPair(int laths, int otherLaths, int skill, int otherSkill) {
        CoracleMakers x = stillWater();
        x.make(laths, 0, skill);
        x.make(otherLaths, 0, otherSkill);
        x.net(0, 1);
        return x;
    }

    /** A calico coracle of 4 laths that has sunk at the market, 26 hours on, and an ox one of 12 laths there. */
    static CoracleMakers withOneSunk() {
        CoracleMakers x = stillWater();
        x.make(4, 2, 1);
        x.make(12, 0, 1);
        x.pass(26);
        return x;
    }

    static void sendBoth(CoracleMakers x, int goal) {
        x.send(0, goal);
        x.send(1, goal);
    }

    static void abouts(CoracleMakers x, int coracle, int... want) {
        for (int what = 0; what < 10; what++) {
            is("about(" + coracle + ", " + what + ")", x.about(coracle, what), want[what]);
        }
    }

    static void counts(CoracleMakers x, int... want) {
        for (int what = 0; what < 13; what++) {
            is("count(" + what + ")", x.count(what), want[what]);
        }
    }

    static void loads(CoracleMakers x, int first, int second) {
        is("load of 0 behind hour " + x.count(0), x.about(0, 7), first);
        is("load of 1 behind hour " + x.count(0), x.about(1, 7), second);
    }

    static void salmon(CoracleMakers x, int... want) {
        for (int r = 0; r < 16; r++) {
            is("reach(" + r + ", 0)", x.reach(r, 0), want[r]);
        }
    }

    /** Lets the hours go by one at a time, and holds what is asked of x behind each against a row. */
    static void coracleReaches(CoracleMakers x, int coracle, int... want) {
        for (int h = 0; h < want.length; h++) {
            x.pass(1);
            is("reach of " + coracle + " behind " + (h + 1) + " hours more", x.about(coracle, 3), want[h]);
        }
    }

    static void mouthSalmon(CoracleMakers x, int... want) {
        for (int h = 0; h < want.length; h++) {
            x.pass(1);
            is("salmon at the mouth behind " + (h + 1) + " hours more", x.reach(15, 0), want[h]);
        }
    }
}
