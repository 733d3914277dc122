import java.math.BigInteger;
import java.util.ArrayList;
import java.util.List;

/** A test for each sentence of the promises that names a boundary case. Answers are worked out by hand. */
public final class CallsBoundariesTest extends Checks {
    public static void main(String[] args) {
        newObject();
        objectsByTurns();
        setDrift();
        setRun();
        buy();
        make();
        net();
        send();
        tar();
        land();
        about();
        told();
        reach();
        count();
        pass();
        meets();
        meetsNever();
        sinks();
        foresee();
        advise();
        mean();
        digest();
        end();
    }

    // ---- the river

    private static void newObject() {
        test("1: Creates a river without coracles, in the hour 0.");
        CoracleMakers used = new CoracleMakers();
        used.make(4, 0, 1);
        used.setDrift(0, 5);
        used.pass(4);
        CoracleMakers x = new CoracleMakers();
        is("hour", x.count(0), 0);
        is("made", x.count(3), 0);
        is("afloat", x.count(4), 0);
        is("nets", x.count(5), 0);
        for (int r = 0; r < 16; r++) {
            is("coracles at " + r, x.reach(r, 1), 0);
        }
        fails(x, "about(0, 0)", INDEX, () -> x.about(0, 0));
        fails(x, "told(0, 0)", INDEX, () -> x.told(0, 0));
        is("drift", x.setDrift(0, 1), 1);
        is("hour of the used one", used.count(0), 4);
    }

    private static void objectsByTurns() {
        test("1: Creates a river: one that no other object changes.");
        CoracleMakers fished = stillPair(12, 12, 1, 1);
        CoracleMakers other = new CoracleMakers();
        other.make(4, 2, 6);
        is("pass of the other", other.pass(3), 0);
        is("drift of the first", fished.setDrift(1, 0), 0);
        is("pass of the first", fished.pass(1), 3);
        is("advise of the first", fished.advise(0, 1), 1);
        is("sinks of the other", other.sinks(0), 23);
        is("meets of the first", fished.meets(0), 0);
        is("foresee of the other", other.foresee(4, 0), 7);
        is("drift of the other", other.setDrift(1, 0), 1);
        counts(fished, 1, 12, 26, 2, 2, 1, 3, 64, 0, 0, 1, 3, 3);
        counts(other, 3, 12, 46, 1, 1, 0, 0, 73, 0, 0, 3, 3, 2);
    }

    private static void setDrift() {
        test("2: Returns the one before.");
        CoracleMakers x = new CoracleMakers();
        is("setDrift(0, 5) first", x.setDrift(0, 5), 1);
        is("setDrift(0, 5) again", x.setDrift(0, 5), 5);
        is("setDrift(0, 0)", x.setDrift(0, 0), 5);
        is("setDrift(0, 1)", x.setDrift(0, 1), 0);
        is("setDrift(1, 0), another hour", x.setDrift(1, 0), 1);

        test("2: Throws IndexOutOfBoundsException if hour is not 0 to 7");
        CoracleMakers y = new CoracleMakers();
        is("setDrift(0, 2)", y.setDrift(0, 2), 1);
        is("setDrift(7, 2)", y.setDrift(7, 2), 1);
        for (int hour : outside(0, 7)) {
            fails(y, "setDrift(" + hour + ", 2)", INDEX, () -> y.setDrift(hour, 2));
        }

        test("2: Throws IllegalArgumentException if by is not 0 to 5");
        CoracleMakers z = new CoracleMakers();
        is("setDrift(3, 0)", z.setDrift(3, 0), 1);
        is("setDrift(3, 5)", z.setDrift(3, 5), 0);
        for (int by : outside(0, 5)) {
            fails(z, "setDrift(3, " + by + ")", ARGUMENT, () -> z.setDrift(3, by));
        }
        is("setDrift(3, 1)", z.setDrift(3, 1), 5);
    }

    private static void setRun() {
        test("3: Returns how many before.");
        CoracleMakers x = new CoracleMakers();
        is("setRun(0, 9) first", x.setRun(0, 9), 3);
        is("setRun(0, 9) again", x.setRun(0, 9), 9);
        is("setRun(0, 0)", x.setRun(0, 0), 9);
        is("setRun(0, 3)", x.setRun(0, 3), 0);
        is("setRun(1, 0), another hour", x.setRun(1, 0), 3);

        test("3: Throws IndexOutOfBoundsException if hour is not 0 to 7");
        CoracleMakers y = new CoracleMakers();
        is("setRun(0, 2)", y.setRun(0, 2), 3);
        is("setRun(7, 2)", y.setRun(7, 2), 3);
        for (int hour : outside(0, 7)) {
            fails(y, "setRun(" + hour + ", 2)", INDEX, () -> y.setRun(hour, 2));
        }

        test("3: Throws IllegalArgumentException if many is not 0 to 9");
        CoracleMakers z = new CoracleMakers();
        is("setRun(3, 0)", z.setRun(3, 0), 3);
        is("setRun(3, 9)", z.setRun(3, 9), 0);
        for (int many : outside(0, 9)) {
            fails(z, "setRun(3, " + many + ")", ARGUMENT, () -> z.setRun(3, many));
        }
        is("setRun(3, 1)", z.setRun(3, 1), 9);
    }

    // ---- making

    /** Two full loads of 12 salmon and the first 12 coins are 60 coins. */
    private static CoracleMakers rich() {
        CoracleMakers x = stillPair(12, 12, 6, 6);
        allRuns(x, 9);
        sendBoth(x, 15);
        x.pass(8);
        sendBoth(x, 0);
        x.pass(3);
        x.land(0);
        x.land(1);
        return x;
    }

    private static void buy() {
        test("4: Throws IndexOutOfBoundsException if what is not 0 to 3");
        CoracleMakers x = new CoracleMakers();
        is("buy(0, 1)", x.buy(0, 1), 4);
        is("buy(3, 1)", x.buy(3, 1), 51);
        for (int what : outside(0, 3)) {
            fails(x, "buy(" + what + ", 1)", INDEX, () -> x.buy(what, 1));
        }

        test("4: Throws IllegalArgumentException if many is not 1 to 40");
        CoracleMakers y = rich();
        is("coins", y.count(1), 60);
        for (int many : outside(1, 40)) {
            fails(y, "buy(3, " + many + ")", ARGUMENT, () -> y.buy(3, many));
            fails(y, "buy(2, " + many + ")", ARGUMENT, () -> y.buy(2, many));
        }
        is("buy(3, 1)", y.buy(3, 1), 27);
        is("buy(3, 40)", y.buy(3, 40), 67);
        is("coins", y.count(1), 19);

        test("4: Throws IllegalStateException if there are fewer coins than they cost");
        int[] most = {3, 4, 12, 12};
        for (int sort = 0; sort < 4; sort++) {
            int what = sort;
            CoracleMakers z = new CoracleMakers();
            fails(z, "buy(" + what + ", 40)", STATE, () -> z.buy(what, 40));
            fails(z, "buy of one more than 12 coins pay", STATE, () -> z.buy(what, most[what] + 1));
            is("buy for all 12 coins", z.buy(what, most[what]), most[what] + (what == 3 ? 50 : 3));
            is("coins", z.count(1), 0);
            fails(z, "buy of one without coins", STATE, () -> z.buy(what, 1));
            CoracleMakers eleven = new CoracleMakers();
            eleven.buy(3, 1);
            fails(eleven, "buy for 12 coins out of 11", STATE, () -> eleven.buy(what, most[what]));
        }
        CoracleMakers last = new CoracleMakers();
        last.buy(3, 9);
        fails(last, "an ox hide for 3 coins", STATE, () -> last.buy(0, 1));
        is("a horse hide for 3 coins", last.buy(1, 1), 4);
    }

    private static void make() {
        test("5: Throws IndexOutOfBoundsException if hide is not 0 to 2");
        CoracleMakers x = new CoracleMakers();
        is("make(4, 0, 1)", x.make(4, 0, 1), 0);
        is("make(4, 2, 1)", x.make(4, 2, 1), 1);
        for (int hide : outside(0, 2)) {
            fails(x, "make(4, " + hide + ", 1)", INDEX, () -> x.make(4, hide, 1));
        }

        test("5: Throws IllegalArgumentException if laths is not 4 to 12");
        CoracleMakers y = new CoracleMakers();
        is("make(4, 1, 1)", y.make(4, 1, 1), 0);
        is("make(12, 1, 1)", y.make(12, 1, 1), 1);
        for (int laths : outside(4, 12)) {
            fails(y, "make(" + laths + ", 1, 1)", ARGUMENT, () -> y.make(laths, 1, 1));
        }

        test("5: Throws IllegalArgumentException if ... skill is not 1 to 6");
        CoracleMakers z = new CoracleMakers();
        is("make(5, 1, 1)", z.make(5, 1, 1), 0);
        is("make(5, 1, 6)", z.make(5, 1, 6), 1);
        for (int skill : outside(1, 6)) {
            fails(z, "make(5, 1, " + skill + ")", ARGUMENT, () -> z.make(5, 1, skill));
        }

        test("5: Throws IllegalStateException if 6 were made");
        CoracleMakers six = new CoracleMakers();
        for (int i = 0; i < 6; i++) {
            is("make", six.make(4, i / 2, 1), i);
        }
        fails(six, "make of a seventh", STATE, () -> six.make(4, 0, 1));
        is("laths left", six.count(2), 26);

        test("5: Throws IllegalStateException if ... there are fewer laths");
        CoracleMakers few = new CoracleMakers();
        few.make(12, 0, 1);
        few.make(12, 0, 1);
        few.make(12, 1, 1);
        few.make(9, 1, 1);
        fails(few, "make of 6 laths out of 5", STATE, () -> few.make(6, 2, 1));
        is("make of 5 laths out of 5", few.make(5, 2, 1), 4);
        is("laths left", few.count(2), 0);
        fails(few, "make of 4 laths out of none", STATE, () -> few.make(4, 2, 1));
        few.buy(3, 4);
        is("make of 4 bought laths", few.make(4, 2, 1), 5);

        test("5: Throws IllegalStateException if ... no such hide");
        for (int sort = 0; sort < 3; sort++) {
            int hide = sort;
            CoracleMakers none = new CoracleMakers();
            none.make(4, hide, 1);
            none.make(4, hide, 1);
            is("make of the last hide " + hide, none.make(4, hide, 1), 2);
            is("hides left", none.count(10 + hide), 0);
            fails(none, "make without a hide " + hide, STATE, () -> none.make(4, hide, 1));
            is("make of another hide", none.make(4, (hide + 1) % 3, 1), 3);
            none.buy(hide, 1);
            is("make of the bought hide", none.make(4, hide, 1), 4);
        }
    }

    private static void net() {
        test("6: Throws IndexOutOfBoundsException if there is no such coracle");
        CoracleMakers x = new CoracleMakers();
        fails(x, "net(0, 1) without coracles", INDEX, () -> x.net(0, 1));
        fails(x, "net(0, 0) without coracles", INDEX, () -> x.net(0, 0));
        x.make(4, 0, 1);
        x.make(4, 0, 1);
        for (int none : outside(0, 1)) {
            fails(x, "net(0, " + none + ")", INDEX, () -> x.net(0, none));
            fails(x, "net(" + none + ", 1)", INDEX, () -> x.net(none, 1));
        }
        is("net(1, 0)", x.net(1, 0), 0);

        test("6: Throws IllegalArgumentException if both are the same");
        CoracleMakers y = new CoracleMakers();
        y.make(4, 0, 1);
        fails(y, "net(0, 0)", ARGUMENT, () -> y.net(0, 0));
        is("partner", y.about(0, 9), -1);

        test("6: Throws IllegalStateException if one of both has a net (afloat or not)");
        CoracleMakers z = stillPair(12, 12, 1, 1);
        for (int i = 2; i < 6; i++) {
            z.make(4, i % 2 + 1, 1);
        }
        fails(z, "the first has one as first", STATE, () -> z.net(0, 2));
        fails(z, "the first has one as second", STATE, () -> z.net(1, 2));
        fails(z, "the second has one as first", STATE, () -> z.net(2, 0));
        fails(z, "the second has one as second", STATE, () -> z.net(2, 1));
        fails(z, "both have the same", STATE, () -> z.net(0, 1));
        z.net(2, 3);
        fails(z, "both have another", STATE, () -> z.net(3, 0));
        z.pass(35);
        is("afloat", z.about(2, 8) + z.about(3, 8), 0);
        fails(z, "the first has one and has sunk", STATE, () -> z.net(2, 4));
        fails(z, "the second has one and has sunk", STATE, () -> z.net(4, 3));

        test("6: Ties a net between two coracles (afloat or not, wherever they are).");
        is("net of two that have sunk", z.net(4, 5), 2);
        is("partner of a sunk one", z.about(5, 9), 4);
        CoracleMakers w = withOneSunk();
        w.send(1, 1);
        w.pass(1);
        is("net of a sunk one and one elsewhere", w.net(0, 1), 0);
        is("partner", w.about(1, 9), 0);
    }

    private static void send() {
        test("7: Throws IndexOutOfBoundsException if there is no such coracle");
        CoracleMakers x = new CoracleMakers();
        fails(x, "send(0, 0) without coracles", INDEX, () -> x.send(0, 0));
        x.make(4, 0, 1);
        x.make(4, 0, 1);
        is("send(0, 1)", x.send(0, 1), 0);
        is("send(1, 1)", x.send(1, 1), 0);
        for (int none : outside(0, 1)) {
            fails(x, "send(" + none + ", 1)", INDEX, () -> x.send(none, 1));
        }

        test("7: Throws IndexOutOfBoundsException if ... goal is not 0 to 15");
        CoracleMakers y = new CoracleMakers();
        y.make(4, 0, 1);
        y.send(0, 15);
        is("goal", y.about(0, 4), 15);
        for (int goal : outside(0, 15)) {
            fails(y, "send(0, " + goal + ")", INDEX, () -> y.send(0, goal));
        }
        is("send(0, 0)", y.send(0, 0), 15);
        is("goal", y.about(0, 4), 0);

        test("7: Returns the one before.");
        is("send(0, 7) behind send(0, 0)", y.send(0, 7), 0);
        is("send(0, 7) again", y.send(0, 7), 7);
        CoracleMakers z = withOneSunk();
        is("send of a sunk one", z.send(0, 9), 0);
        is("send of a sunk one again", z.send(0, 3), 9);
    }

    private static void tar() {
        test("8: its tar is 30 then, and the water is poured out. Returns the water that it had.");
        CoracleMakers x = stillWater();
        x.make(12, 0, 1);
        is("tar of a new one", x.tar(0), 0);
        abouts(x, 0, 12, 0, 1, 0, 0, 30, 0, 0, 1, -1);
        x.pass(40);
        x.pass(12);
        is("tar ahead of it", x.about(0, 5), 0);
        is("tar one hour from sinking", x.tar(0), 23);
        abouts(x, 0, 12, 0, 1, 0, 0, 30, 0, 0, 1, -1);
        is("sinks(0)", x.sinks(0), 53);

        test("8: Throws IndexOutOfBoundsException if there is no such coracle");
        CoracleMakers y = new CoracleMakers();
        fails(y, "tar(0) without coracles", INDEX, () -> y.tar(0));
        y.make(4, 0, 1);
        y.make(4, 0, 1);
        for (int none : outside(0, 1)) {
            fails(y, "tar(" + none + ")", INDEX, () -> y.tar(none));
        }
        is("tar(1)", y.tar(1), 0);

        test("8: Throws IllegalStateException if it is not afloat at the reach 0");
        CoracleMakers z = withOneSunk();
        fails(z, "tar of a sunk one at the reach 0", STATE, () -> z.tar(0));
        z.send(1, 1);
        z.pass(1);
        fails(z, "tar of one afloat at the reach 1", STATE, () -> z.tar(1));
        z.send(1, 15);
        z.pass(20);
        fails(z, "tar of one afloat at the reach 15", STATE, () -> z.tar(1));

        test("8: Throws IllegalStateException if ... there are fewer than 3 coins");
        CoracleMakers w = new CoracleMakers();
        w.make(4, 0, 1);
        w.buy(3, 9);
        is("tar for the last 3 coins", w.tar(0), 0);
        is("coins", w.count(1), 0);
        fails(w, "tar without coins", STATE, () -> w.tar(0));
        CoracleMakers two = new CoracleMakers();
        two.make(4, 0, 1);
        two.buy(3, 10);
        fails(two, "tar for 2 coins", STATE, () -> two.tar(0));
    }

    private static void land() {
        test("9: Sells the load of a coracle at the market, 2 coins a salmon. Returns the coins that come in.");
        CoracleMakers x = stillPair(12, 12, 1, 1);
        is("land of nothing", x.land(0), 0);
        x.pass(1);
        is("land of one salmon", x.land(1), 2);
        is("land of two", x.land(0), 4);
        is("land again", x.land(0), 0);
        is("coins", x.count(1), 18);
        is("sold", x.count(8), 3);
        CoracleMakers full = rich();
        is("coins of two full loads", full.count(1), 60);
        is("sold", full.count(8), 24);
        loads(full, 0, 0);

        test("9: Throws IndexOutOfBoundsException if there is no such coracle");
        CoracleMakers y = new CoracleMakers();
        fails(y, "land(0) without coracles", INDEX, () -> y.land(0));
        y.make(4, 0, 1);
        y.make(4, 0, 1);
        for (int none : outside(0, 1)) {
            fails(y, "land(" + none + ")", INDEX, () -> y.land(none));
        }
        is("land(1)", y.land(1), 0);

        test("9: Throws IllegalStateException if it is not afloat at the reach 0");
        CoracleMakers z = withOneSunk();
        fails(z, "land of a sunk one at the reach 0", STATE, () -> z.land(0));
        CoracleMakers away = stillPair(12, 12, 1, 1);
        away.pass(1);
        away.send(0, 1);
        away.pass(1);
        fails(away, "land of a load at the reach 1", STATE, () -> away.land(0));
        away.send(0, 15);
        away.pass(20);
        fails(away, "land of a load at the reach 15", STATE, () -> away.land(0));
    }

    // ---- what there is

    private static void about() {
        test("10: 8 1 if it is afloat, else 0");
        CoracleMakers x = stillWater();
        x.make(4, 2, 1);
        x.pass(25);
        is("about(0, 8) ahead of sinking", x.about(0, 8), 1);
        x.pass(1);
        is("about(0, 8) behind sinking", x.about(0, 8), 0);

        test("10: 9 the coracle with which it has a net, -1 without one");
        CoracleMakers y = new CoracleMakers();
        for (int i = 0; i < 3; i++) {
            y.make(4, 0, 1);
        }
        is("about(0, 9) without nets", y.about(0, 9), -1);
        y.net(2, 0);
        is("about(0, 9) as the second", y.about(0, 9), 2);
        is("about(2, 9) as the first", y.about(2, 9), 0);
        is("about(1, 9) without one", y.about(1, 9), -1);

        test("10: Throws IndexOutOfBoundsException if there is no such coracle");
        for (int none : outside(0, 2)) {
            fails(y, "about(" + none + ", 0)", INDEX, () -> y.about(none, 0));
            fails(y, "about(" + none + ", 9)", INDEX, () -> y.about(none, 9));
        }
        is("about(2, 0)", y.about(2, 0), 4);
        CoracleMakers six = new CoracleMakers();
        for (int i = 0; i < 6; i++) {
            six.make(4 + i % 2, i / 2, 1 + i);
        }
        is("about(5, 2)", six.about(5, 2), 6);
        for (int none : outside(0, 5)) {
            fails(six, "about(" + none + ", 0) of six", INDEX, () -> six.about(none, 0));
        }

        test("10: Throws IndexOutOfBoundsException if ... what is not 0 to 9");
        for (int what : outside(0, 9)) {
            fails(y, "about(0, " + what + ")", INDEX, () -> y.about(0, what));
        }
    }

    private static void told() {
        test("11: Throws IndexOutOfBoundsException if there is no such net");
        CoracleMakers x = new CoracleMakers();
        for (int i = 0; i < 6; i++) {
            x.make(4, i % 3, 1);
        }
        for (int tied = 0; tied < 4; tied++) {
            for (int none : outside(0, tied - 1)) {
                fails(x, "told(" + none + ", 0) of " + tied + " nets", INDEX, () -> x.told(none, 0));
            }
            if (tied < 3) {
                x.net(2 * tied + 1, 2 * tied);
                is("told(" + tied + ", 0)", x.told(tied, 0), 2 * tied + 1);
                is("told(" + tied + ", 1)", x.told(tied, 1), 2 * tied);
            }
        }

        test("11: Throws IndexOutOfBoundsException if ... what is not 0 to 3");
        is("told(0, 0)", x.told(0, 0), 1);
        is("told(0, 3)", x.told(0, 3), 3);
        for (int what : outside(0, 3)) {
            fails(x, "told(0, " + what + ")", INDEX, () -> x.told(0, what));
        }

        test("11: 2 salmon that it caught in all, 3 what it would catch now");
        CoracleMakers y = stillPair(4, 4, 1, 1);
        allRuns(y, 0);
        int[][] rows = {{0, 3}, {3, 1}, {4, 0}, {4, 0}, {4, 2}, {6, 0}};
        for (int h = 0; h < rows.length; h++) {
            is("told(0, 2) in the hour " + h, y.told(0, 2), rows[h][0]);
            is("told(0, 3) in the hour " + h, y.told(0, 3), rows[h][1]);
            y.pass(1);
        }
        y.pass(32);
        is("told(0, 2), both sunk", y.told(0, 2), 8);
    }

    private static void reach() {
        test("12: Throws IndexOutOfBoundsException if reach is not 0 to 15");
        CoracleMakers x = new CoracleMakers();
        is("reach(0, 0)", x.reach(0, 0), 4);
        is("reach(15, 0)", x.reach(15, 0), 4);
        for (int none : outside(0, 15)) {
            fails(x, "reach(" + none + ", 0)", INDEX, () -> x.reach(none, 0));
            fails(x, "reach(" + none + ", 1)", INDEX, () -> x.reach(none, 1));
        }

        test("12: Throws IndexOutOfBoundsException if ... what is not 0 or 1");
        is("reach(0, 1)", x.reach(0, 1), 0);
        for (int what : outside(0, 1)) {
            fails(x, "reach(0, " + what + ")", INDEX, () -> x.reach(0, what));
        }

        test("12: 1 coracles that are afloat there");
        CoracleMakers y = stillWater();
        y.make(4, 2, 1);
        y.make(4, 0, 1);
        is("reach(0, 1)", y.reach(0, 1), 2);
        is("reach(1, 1)", y.reach(1, 1), 0);
        y.pass(25);
        is("reach(0, 1) ahead of sinking", y.reach(0, 1), 2);
        y.pass(1);
        is("reach(0, 1), one sunk there", y.reach(0, 1), 1);
        y.pass(11);
        is("reach(0, 1), both sunk there", y.reach(0, 1), 0);
    }

    private static void count() {
        test("13: Throws IndexOutOfBoundsException if what is not 0 to 12");
        CoracleMakers x = new CoracleMakers();
        x.pass(1);
        x.make(4, 2, 1);
        is("count(0)", x.count(0), 1);
        is("count(12)", x.count(12), 2);
        for (int what : outside(0, 12)) {
            fails(x, "count(" + what + ")", INDEX, () -> x.count(what));
        }

        test("13: 3 coracles that were made, 4 those of them that are afloat");
        is("count(3) ahead of sinking", x.count(3), 1);
        is("count(4) ahead of sinking", x.count(4), 1);
        x.pass(26);
        is("count(3) behind sinking", x.count(3), 1);
        is("count(4) behind sinking", x.count(4), 0);
    }

    // ---- hours and what would be

    private static void pass() {
        test("14: Throws IllegalArgumentException if hours is not 1 to 40");
        CoracleMakers x = new CoracleMakers();
        for (int hours : outside(1, 40)) {
            fails(x, "pass(" + hours + ")", ARGUMENT, () -> x.pass(hours));
        }
        x.pass(1);
        is("hour", x.count(0), 1);
        x.pass(40);
        is("hour", x.count(0), 41);

        test("14: Returns how many salmon all nets catch in them.");
        is("pass(1) without nets", x.pass(1), 0);
        CoracleMakers y = stillPair(12, 12, 1, 1);
        y.make(6, 1, 1);
        y.make(6, 1, 1);
        y.net(3, 2);
        y.send(2, 1);
        y.send(3, 1);
        is("pass(1) of two nets", y.pass(1), 6);
        is("pass(2), what is left", y.pass(2), 2);
        is("pass(1), none left", y.pass(1), 0);
        CoracleMakers sunk = stillPair(4, 4, 6, 6);
        is("pass(37), until both are full", sunk.pass(37), 8);
        is("pass(40), both sunk", sunk.pass(40), 0);
    }

    private static void meets() {
        test("15: 0 if now");
        CoracleMakers x = stillPair(12, 12, 1, 6);
        is("meets(0) now", x.meets(0), 0);
        x.send(1, 15);
        is("meets(0) now, though they part", x.meets(0), 0);

        test("15: behind how many hours ... both its coracles are ... at the same reach for the first time");
        x.pass(1);
        is("meets(0) no more", x.meets(0), -1);
        x.send(0, 15);
        is("meets(0) at the mouth", x.meets(0), 15);
        x.send(1, 5);
        is("meets(0) on the way", x.meets(0), 5);
        x.send(1, 0);
        is("meets(0), crossing at once", x.meets(0), -1);
        CoracleMakers crossing = stillPair(12, 12, 1, 1);
        crossing.send(1, 3);
        crossing.pass(3);
        crossing.send(0, 15);
        crossing.send(1, 0);
        is("meets(0), crossing between the reaches 1 and 2", crossing.meets(0), -1);
        CoracleMakers once = stillPair(12, 12, 1, 1);
        once.send(1, 4);
        once.pass(4);
        once.send(0, 15);
        once.send(1, 0);
        is("meets(0), together in one hour alone", once.meets(0), 2);

        test("15: (nothing is changed)");
        long before = once.digest();
        is("meets(0) again", once.meets(0), 2);
        is("digest", once.digest(), before);

        test("15: Throws IndexOutOfBoundsException if there is no such net");
        for (int none : outside(0, 0)) {
            fails(once, "meets(" + none + ")", INDEX, () -> once.meets(none));
        }
        CoracleMakers bare = new CoracleMakers();
        fails(bare, "meets(0) without nets", INDEX, () -> bare.meets(0));
        CoracleMakers three = threeNets();
        is("meets(0) of three", three.meets(0), 0);
        is("meets(1) of three", three.meets(1), 3);
        is("meets(2) of three", three.meets(2), 5);
        fails(three, "meets(3) of three", INDEX, () -> three.meets(3));
    }

    /** The most coracles and nets, 5 hours on. The second ones of the nets are at 0, 3 and 5, to stay there. */
    private static CoracleMakers threeNets() {
        CoracleMakers x = stillWater();
        for (int i = 0; i < 6; i++) {
            x.make(4, i % 2, 1);
        }
        x.send(2, 3);
        x.send(4, 5);
        x.pass(5);
        x.net(1, 0);
        x.net(3, 2);
        x.net(5, 4);
        x.send(3, 15);
        x.send(5, 15);
        return x;
    }

    /** The first one is at the mouth, the second at its goal; the first goes up in one hour of 8, by one reach. */
    private static CoracleMakers slowlyUp(int goal) {
        CoracleMakers x = new CoracleMakers();
        allDrifts(x, 5);
        x.make(12, 0, 1);
        x.make(12, 0, 6);
        x.send(0, 15);
        x.send(1, goal);
        x.pass(3);
        x.net(0, 1);
        x.send(0, 0);
        allDrifts(x, 1);
        x.setDrift(2, 0);
        return x;
    }

    private static void meetsNever() {
        test("15: at most 90; -1 if not by then");
        is("meets(0), late", slowlyUp(9).meets(0), 40);
        is("meets(0), ahead of sinking alone", slowlyUp(8).meets(0), 48);
        is("meets(0), sunk by then", slowlyUp(7).meets(0), -1);

        test("15: both its coracles are afloat");
        CoracleMakers sunk = withOneSunk();
        sunk.net(0, 1);
        is("meets(0), the first sunk there", sunk.meets(0), -1);
        CoracleMakers other = withOneSunk();
        other.net(1, 0);
        is("meets(0), the second sunk there", other.meets(0), -1);
        int[][] rows = {{24, 1}, {25, -1}};
        for (int[] row : rows) {
            CoracleMakers x = stillWater();
            x.make(4, 2, 1);
            x.make(12, 0, 1);
            x.net(0, 1);
            x.send(1, 1);
            x.pass(row[0]);
            x.send(1, 0);
            is("meets(0) in the hour " + row[0] + ", it sinks in the hour 25", x.meets(0), row[1]);
        }
    }

    private static void sinks() {
        test("16: 0 if it has");
        CoracleMakers x = withOneSunk();
        is("sinks(0)", x.sinks(0), 0);
        x.pass(40);
        is("sinks(0) later", x.sinks(0), 0);

        test("16: behind how many hours, if nothing else is done, it has sunk");
        CoracleMakers y = stillWater();
        y.make(4, 2, 1);
        y.make(12, 0, 1);
        is("sinks(0), soonest of all", y.sinks(0), 26);
        is("sinks(1), latest of all", y.sinks(1), 53);
        y.pass(25);
        is("sinks(0), 25 hours on", y.sinks(0), 1);
        y.pass(1);
        is("sinks(0), 26 hours on", y.sinks(0), 0);
        y.tar(1);
        is("sinks(1), tarred", y.sinks(1), 53);

        test("16: (nothing is changed)");
        long before = y.digest();
        is("sinks(1) again", y.sinks(1), 53);
        is("digest", y.digest(), before);

        test("16: Throws IndexOutOfBoundsException if there is no such coracle");
        for (int none : outside(0, 1)) {
            fails(y, "sinks(" + none + ")", INDEX, () -> y.sinks(none));
        }
        CoracleMakers bare = new CoracleMakers();
        fails(bare, "sinks(0) without coracles", INDEX, () -> bare.sinks(0));
        CoracleMakers six = threeNets();
        is("sinks(0) of six", six.sinks(0), 32);
        is("sinks(5) of six", six.sinks(5), 25);
        fails(six, "sinks(6) of six", INDEX, () -> six.sinks(6));
    }

    private static void foresee() {
        test("17: Throws IllegalArgumentException if hours is not 1 to 40");
        CoracleMakers x = stillPair(4, 4, 1, 1);
        is("foresee(1, 0)", x.foresee(1, 0), 1);
        is("foresee(40, 0)", x.foresee(40, 0), 40);
        for (int hours : outside(1, 40)) {
            fails(x, "foresee(" + hours + ", 0)", ARGUMENT, () -> x.foresee(hours, 0));
        }

        test("17: Throws IndexOutOfBoundsException if what is not 0 to 12");
        is("foresee(1, 12)", x.foresee(1, 12), 3);
        for (int what : outside(0, 12)) {
            fails(x, "foresee(1, " + what + ")", INDEX, () -> x.foresee(1, what));
        }

        test("17: what: 0 to 12 as count() has it");
        CoracleMakers y = stillPair(12, 12, 1, 1);
        y.buy(0, 1);
        y.buy(2, 1);
        y.pass(1);
        y.land(0);
        int[] want = {4, 11, 26, 2, 2, 1, 2, 72, 2, 0, 2, 3, 4};
        for (int what = 0; what < 13; what++) {
            is("foresee(3, " + what + ")", y.foresee(3, what), want[what]);
        }

        test("17: Returns this, behind so many hours, if nothing else is done (nothing is changed).");
        long before = x.digest();
        is("load of all behind 36 hours", x.foresee(36, 6), 8);
        is("afloat behind 36 hours", x.foresee(36, 4), 2);
        is("load of all behind 37 hours", x.foresee(37, 6), 0);
        is("afloat behind 37 hours", x.foresee(37, 4), 0);
        is("spawned behind 3 hours", x.foresee(3, 9), 0);
        is("salmon behind 1 hour", x.foresee(1, 7), 64);
        is("digest", x.digest(), before);
    }

    private static void advise() {
        test("18: of several the one with the smallest number");
        CoracleMakers x = stillPair(12, 12, 6, 6);
        is("advise(0, 1), 4 salmon everywhere", x.advise(0, 1), 0);
        x.pass(1);
        is("advise(0, 1), none at the market", x.advise(0, 1), 1);
        CoracleMakers sunk = withOneSunk();
        sunk.net(0, 1);
        is("advise(0, 10), nothing to catch", sunk.advise(0, 10), 0);

        test("18: All 16 are tried.");
        CoracleMakers run = new CoracleMakers();
        run.make(12, 0, 6);
        run.make(12, 0, 6);
        run.net(0, 1);
        allRuns(run, 9);
        allDrifts(run, 5);
        is("advise(0, 2): 4 at 11, 8 at the mouth", run.advise(0, 2), 15);
        for (int goal = 1; goal < 16; goal++) {
            is("advise(0, 1), none but at " + goal + " and below", aboveSalmon(goal).advise(0, 1), goal);
        }

        test("18: so that this net catches the most behind so many hours ... now");
        CoracleMakers mouth = stillPair(12, 12, 6, 6);
        allRuns(mouth, 9);
        is("advise(0, 3): 4 at 6, 4 at 12, 8 at the mouth", mouth.advise(0, 3), 15);
        is("advise(0, 2): 4 at 6, 4 at 7", mouth.advise(0, 2), 7);
        is("advise(0, 1): 4 at the market", mouth.advise(0, 1), 0);

        test("18: (nothing is changed)");
        mouth.send(0, 3);
        long before = mouth.digest();
        mouth.advise(0, 10);
        is("digest", mouth.digest(), before);
        is("goal of the first", mouth.about(0, 4), 3);
        is("goal of the second", mouth.about(1, 4), 0);

        test("18: Throws IndexOutOfBoundsException if there is no such net");
        for (int none : outside(0, 0)) {
            fails(mouth, "advise(" + none + ", 1)", INDEX, () -> mouth.advise(none, 1));
        }
        CoracleMakers bare = new CoracleMakers();
        fails(bare, "advise(0, 1) without nets", INDEX, () -> bare.advise(0, 1));
        CoracleMakers three = threeNets();
        is("advise(1, 3): 4 at 1 and 2, none at the market behind the net 0", three.advise(1, 3), 1);
        is("advise(2, 3): 3 at 2 and 3", three.advise(2, 3), 2);
        is("advise(2, 2), too far apart", three.advise(2, 2), 0);
        fails(three, "advise(3, 1) of three", INDEX, () -> three.advise(3, 1));

        test("18: Throws IllegalArgumentException if hours is not 1 to 10");
        for (int hours : outside(1, 10)) {
            fails(mouth, "advise(0, " + hours + ")", ARGUMENT, () -> mouth.advise(0, hours));
        }
        is("advise(0, 10): both are full at 14 and at the mouth", mouth.advise(0, 10), 14);
    }

    /** Both are 1 reach above, where none are left; they drift to the reach, and can go 1 up or down from there. */
    private static CoracleMakers aboveSalmon(int reach) {
        CoracleMakers x = stillWater();
        allRuns(x, 0);
        x.make(12, 0, 1);
        x.make(12, 0, 1);
        sendBoth(x, reach - 1);
        x.pass(reach);
        x.net(0, 1);
        for (int h = 0; h < 20 && x.reach(reach - 1, 0) > 0; h++) {
            x.pass(1);
        }
        is("salmon above " + reach, x.reach(reach - 1, 0), 0);
        allDrifts(x, 1);
        return x;
    }

    private static void mean() {
        test("19: Returns the mean tar of all coracles that were made, sunk or not");
        CoracleMakers x = stillWater();
        x.make(4, 2, 1);
        isDouble("mean() of a new one", x.mean(), 30.0);
        x.pass(26);
        is("afloat", x.count(4), 0);
        isDouble("mean() of a sunk one", x.mean(), 4.0);
        x.make(12, 0, 1);
        isDouble("mean() of a sunk one and another", x.mean(), 17.0);
        x.make(12, 0, 1);
        isDouble("mean() of three", x.mean(), 64.0 / 3.0);
        x.pass(30);
        isDouble("mean() of a sunk one and two without tar", x.mean(), 4.0 / 3.0);
        CoracleMakers bare = stillWater();
        bare.make(12, 0, 1);
        bare.pass(30);
        isDouble("mean() of one without tar", bare.mean(), 0.0);

        test("19: 0 without any.");
        isDouble("mean()", new CoracleMakers().mean(), 0.0);
    }

    private static void digest() {
        test("20: d becomes d * 31 + x, which wraps around as a 64-bit integer");
        CoracleMakers x = new CoracleMakers();
        is("digest() of a new object", x.digest(), exactDigest(x).longValue());
        is("the exact one needs more than 64 bits", exactDigest(x).bitLength() > 64 ? 1 : 0, 1);
        for (int i = 0; i < 6; i++) {
            x.make(4 + i % 2, i % 3, 6 - i);
        }
        for (int i = 0; i < 3; i++) {
            x.net(5 - i, i);
        }
        is("digest() of all coracles and nets", x.digest(), exactDigest(x).longValue());
        x.pass(40);
        is("digest(), all sunk", x.digest(), exactDigest(x).longValue());
    }

    /** The checksum without any wrapping around, of a river whose tables are as at first. */
    private static BigInteger exactDigest(CoracleMakers x) {
        List<Integer> numbers = new ArrayList<>();
        for (int what = 0; what < 13; what++) {
            numbers.add(x.count(what));
        }
        for (int h = 0; h < 8; h++) {
            numbers.add(1);
            numbers.add(3);
        }
        for (int coracle = 0; coracle < x.count(3); coracle++) {
            for (int what = 0; what < 10; what++) {
                numbers.add(x.about(coracle, what));
            }
        }
        for (int net = 0; net < x.count(5); net++) {
            for (int what = 0; what < 4; what++) {
                numbers.add(x.told(net, what));
            }
        }
        for (int reach = 0; reach < 16; reach++) {
            numbers.add(x.reach(reach, 0));
            numbers.add(x.reach(reach, 1));
        }
        BigInteger d = BigInteger.valueOf(1487);
        for (int number : numbers) {
            d = d.multiply(BigInteger.valueOf(31)).add(BigInteger.valueOf(number));
        }
        return d;
    }
}
