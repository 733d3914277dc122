/**
 * A test for each sentence ahead of the promises (the terms, the five points of an hour and the rule of exceptions)
 * that names a boundary case. Answers are worked out by hand.
 */
public final class TermsBoundariesTest extends Checks {
    public static void main(String[] args) {
        lastCall();
        river();
        tables();
        stores();
        coracles();
        nets();
        wouldCatch();
        drifting();
        paddling();
        catching();
        sharing();
        leaking();
        sinking();
        climbing();
        comingIn();
        exceptions();
        end();
    }

    // ---- what an object is used for

    private static void lastCall() {
        test("An object is used for at most 512 calls after it has been made.");
        CoracleMakers x = new CoracleMakers();
        for (int i = 0; i < 511; i++) {
            x.pass(40);
        }
        is("count(0) as the call 512", x.count(0), 20440);
        CoracleMakers y = new CoracleMakers();
        for (int i = 0; i < 170; i++) {
            fails(y, "make of 3 laths", ARGUMENT, () -> y.make(3, 0, 1));
        }
        is("count(3) as the call 511", y.count(3), 0);
        is("make as the call 512", y.make(4, 0, 1), 0);
    }

    // ---- the river

    private static void river() {
        test("It has 16 reaches, 0 (the market) to 15 (the mouth, down the river).");
        CoracleMakers ends = stillWater();
        ends.make(12, 0, 6);
        ends.send(0, 15);
        coracleReaches(ends, 0, 6, 12, 15, 15);
        is("coracles at the mouth", ends.reach(15, 1), 1);
        ends.send(0, 0);
        coracleReaches(ends, 0, 9, 3, 0, 0);
        is("coracles at the market", ends.reach(0, 1), 1);

        test("Each has salmon, 0 to 60 (4, at first).");
        CoracleMakers x = stillPair(12, 12, 6, 6);
        salmon(x, 4, 4, 4, 4, 4, 4, 4, 4, 4, 4, 4, 4, 4, 4, 4, 4);
        is("caught, all of the reach", x.pass(1), 4);
        is("salmon at the market, none left", x.reach(0, 0), 0);
        is("caught of none", x.pass(1), 0);
        is("salmon at the market, none still", x.reach(0, 0), 0);
        CoracleMakers full = new CoracleMakers();
        allRuns(full, 9);
        full.pass(40);
        full.pass(3);
        is("salmon at the reach 14, the most", full.reach(14, 0), 60);
        is("salmon at the reach 15, the most", full.reach(15, 0), 60);
    }

    private static void tables() {
        test("Two tables tell for each of 8 hours (the hour by the remainder of 8)");
        CoracleMakers last = lowOx();
        last.setDrift(7, 5);
        coracleReaches(last, 0, 0, 0, 0, 0, 0, 0, 0, 4, 3, 2, 1, 0, 0, 0, 0, 4, 3);
        CoracleMakers first = lowOx();
        first.setDrift(0, 5);
        coracleReaches(first, 0, 4, 3, 2, 1, 0, 0, 0, 0, 4, 3, 2, 1, 0, 0, 0, 0, 4);
        CoracleMakers lastRun = new CoracleMakers();
        allRuns(lastRun, 0);
        lastRun.setRun(7, 9);
        mouthSalmon(lastRun, 4, 4, 4, 2, 2, 2, 2, 10, 10, 10, 10, 5, 5, 5, 5, 12, 12);
        CoracleMakers firstRun = new CoracleMakers();
        allRuns(firstRun, 0);
        firstRun.setRun(0, 9);
        mouthSalmon(firstRun, 13, 13, 13, 7, 7, 7, 7, 4, 13, 13, 13, 7, 7, 7, 7, 4, 13);

        test("by how many reaches everything drifts, 0 to 5 (1, at first)");
        int[][] driftRows = {{0, 1}, {5, 6}};
        for (int[] row : driftRows) {
            CoracleMakers x = new CoracleMakers();
            x.make(12, 0, 1);
            x.send(0, 15);
            allDrifts(x, row[0]);
            coracleReaches(x, 0, row[1], 2 * row[1]);
        }
        CoracleMakers untouched = new CoracleMakers();
        untouched.make(12, 0, 1);
        untouched.send(0, 15);
        coracleReaches(untouched, 0, 2, 4, 6, 8, 10, 12, 14, 15, 15);

        test("how many salmon come in from the sea, 0 to 9 (3, at first)");
        int[][] runRows = {{0, 4}, {9, 22}};
        for (int[] row : runRows) {
            CoracleMakers x = new CoracleMakers();
            allRuns(x, row[0]);
            x.pass(2);
            is("salmon at the mouth by a run of " + row[0], x.reach(15, 0), row[1]);
        }
        mouthSalmon(new CoracleMakers(), 7, 10, 13, 10, 13, 16, 19, 13, 16);
    }

    /** Still water and a coracle that goes back to the market by one reach an hour. */
    private static CoracleMakers lowOx() {
        CoracleMakers x = stillWater();
        x.make(12, 0, 1);
        return x;
    }

    // ---- stores, coracles and nets

    private static void stores() {
        test("There are 50 ash laths, 3 hides of each sort, and 12 coins, at first.");
        counts(new CoracleMakers(), 0, 12, 50, 0, 0, 0, 0, 64, 0, 0, 3, 3, 3);

        test("Hides ... cost 4, 3 and 1 coins; a lath costs 1.");
        int[] costs = {4, 3, 1, 1};
        for (int what = 0; what < 4; what++) {
            CoracleMakers x = new CoracleMakers();
            x.buy(what, 1);
            is("coins behind buy(" + what + ", 1)", x.count(1), 12 - costs[what]);
        }
    }

    private static void coracles() {
        test("At most 6 can be made in all, numbered from 0");
        CoracleMakers x = new CoracleMakers();
        for (int i = 0; i < 6; i++) {
            is("make", x.make(4, i % 3, 1), i);
        }
        fails(x, "make of a seventh", STATE, () -> x.make(4, 0, 1));
        x.pass(40);
        is("afloat", x.count(4), 0);
        fails(x, "make of a seventh with all sunk", STATE, () -> x.make(4, 0, 1));

        test("a reach (0, at first), a goal (0), tar (30), water in it (0) and a load of salmon (0)");
        CoracleMakers y = new CoracleMakers();
        y.make(4, 2, 6);
        y.send(0, 15);
        y.pass(24);
        y.make(12, 1, 1);
        abouts(y, 1, 12, 1, 1, 0, 0, 30, 0, 0, 1, -1);

        test("a load of salmon, at most as many as it has laths");
        CoracleMakers full = stillPair(4, 5, 6, 6);
        allRuns(full, 9);
        sendBoth(full, 15);
        is("caught", full.pass(20), 9);
        loads(full, 4, 5);
        is("salmon there", full.reach(15, 0) > 0 ? 1 : 0, 1);
    }

    private static void nets() {
        test("a coracle has one net at most");
        CoracleMakers x = sunkPair();
        x.make(4, 1, 1);
        fails(x, "a second net of the first one", STATE, () -> x.net(0, 2));
        fails(x, "a second net of the second one", STATE, () -> x.net(2, 1));

        test("They are numbered from 0, and stay, even if a coracle sinks.");
        CoracleMakers y = sunkPair();
        is("afloat", y.count(4), 0);
        is("nets", y.count(5), 1);
        is("told(0, 0)", y.told(0, 0), 0);
        is("told(0, 1)", y.told(0, 1), 1);
        is("told(0, 2)", y.told(0, 2), 4);
        is("partner of 0", y.about(0, 9), 1);
        is("partner of 1", y.about(1, 9), 0);
        y.make(4, 1, 1);
        y.make(4, 1, 1);
        is("number of the next net", y.net(3, 2), 1);
        is("told(1, 0)", y.told(1, 0), 3);
    }

    /** The net 0 is between two coracles that caught 4 salmon at the market in the hour 0 and then sank there. */
    private static CoracleMakers sunkPair() {
        CoracleMakers x = stillPair(4, 4, 6, 6);
        allRuns(x, 0);
        x.pass(1);
        x.send(0, 1);
        x.pass(36);
        return x;
    }

    private static void wouldCatch() {
        test("0, if not both coracles are afloat");
        CoracleMakers x = withOneSunk();
        x.net(0, 1);
        is("told(0, 3), the first sunk", x.told(0, 3), 0);
        CoracleMakers y = withOneSunk();
        y.net(1, 0);
        is("told(0, 3), the second sunk", y.told(0, 3), 0);
        CoracleMakers both = stillPair(4, 4, 6, 6);
        both.pass(37);
        is("salmon at the market", both.reach(0, 0) > 0 ? 1 : 0, 1);
        is("told(0, 3), both sunk", both.told(0, 3), 0);

        test("0, if not ... at the same reach");
        CoracleMakers apart = stillPair(12, 12, 1, 1);
        is("told(0, 3) at the same reach", apart.told(0, 3), 3);
        apart.send(1, 1);
        apart.pass(1);
        is("told(0, 3), the second 1 reach down", apart.told(0, 3), 0);
        apart.send(1, 0);
        apart.send(0, 1);
        apart.pass(1);
        is("told(0, 3), the first 1 reach down", apart.told(0, 3), 0);

        test("the least of the salmon of the reach");
        is("4 salmon, 5 by the skill", stillPair(12, 12, 3, 3).told(0, 3), 4);
        is("4 salmon, 4 by the skill", stillPair(12, 12, 2, 2).told(0, 3), 4);
        CoracleMakers few = stillPair(12, 12, 1, 1);
        few.pass(1);
        is("1 salmon", few.told(0, 3), 1);
        few.pass(1);
        is("no salmon", few.told(0, 3), 0);

        test("2 more than the lesser skill of both");
        is("the first less", stillPair(12, 12, 1, 6).told(0, 3), 3);
        is("the second less", stillPair(12, 12, 6, 1).told(0, 3), 3);
        CoracleMakers mouth = stillWater();
        allRuns(mouth, 9);
        mouth.make(12, 0, 6);
        mouth.make(12, 0, 6);
        sendBoth(mouth, 15);
        mouth.pass(3);
        mouth.net(0, 1);
        is("salmon at the mouth", mouth.reach(15, 0), 31);
        is("skill 6 of both", mouth.told(0, 3), 8);

        test("the room of both, added (room: laths less load)");
        CoracleMakers room = stillPair(4, 4, 1, 1);
        room.pass(1);
        loads(room, 2, 1);
        sendBoth(room, 1);
        room.pass(1);
        loads(room, 4, 2);
        sendBoth(room, 2);
        is("caught with room 0 and 2", room.pass(1), 2);
        loads(room, 4, 4);
        is("salmon there", room.reach(2, 0), 2);
        is("told(0, 3) without room", room.told(0, 3), 0);
        is("caught without room", room.pass(1), 0);
    }

    // ---- an hour: 1. drifting and going

    private static void drifting() {
        test("Coracles that are afloat drift down the river");
        CoracleMakers sunk = withOneSunk();
        allDrifts(sunk, 5);
        coracleReaches(sunk, 0, 0, 0);
        is("reach of the one that is afloat", sunk.about(1, 3), 8);

        test("at most to the reach 15");
        CoracleMakers x = stillWater();
        x.make(12, 0, 5);
        x.send(0, 10);
        coracleReaches(x, 0, 5, 10);
        x.send(0, 15);
        allDrifts(x, 5);
        coracleReaches(x, 0, 15, 15);
        x.send(0, 14);
        coracleReaches(x, 0, 14);
        x.send(0, 0);
        coracleReaches(x, 0, 10, 10);
        CoracleMakers y = stillWater();
        y.make(12, 0, 1);
        allDrifts(y, 5);
        coracleReaches(y, 0, 4, 8, 12, 14, 14);

        test("then each goes from there");
        CoracleMakers z = new CoracleMakers();
        z.make(12, 0, 1);
        z.send(0, 3);
        z.setDrift(0, 5);
        coracleReaches(z, 0, 4);
    }

    private static void paddling() {
        test("towards its goal (up or down, no farther) by its skill at most");
        int[][] rows = {{2, 3, 2}, {3, 3, 3}, {4, 3, 3}, {15, 1, 1}, {0, 6, 0}, {1, 6, 1}};
        for (int[] row : rows) {
            CoracleMakers down = stillWater();
            down.make(12, 0, row[1]);
            down.send(0, row[0]);
            coracleReaches(down, 0, row[2]);
            CoracleMakers up = stillWater();
            up.make(12, 0, row[1]);
            up.send(0, 15);
            up.pass(15);
            up.send(0, 15 - row[0]);
            coracleReaches(up, 0, 15 - row[2]);
        }
        CoracleMakers there = stillWater();
        there.make(12, 0, 6);
        there.send(0, 5);
        coracleReaches(there, 0, 5, 5, 5);
    }

    // ---- an hour: 2. nets

    private static void catching() {
        test("Nets, by numbers");
        CoracleMakers x = stillWater();
        for (int i = 0; i < 6; i++) {
            x.make(8, i % 3, 1);
        }
        x.net(5, 0);
        x.net(1, 4);
        x.net(2, 3);
        is("caught", x.pass(1), 4);
        is("the net 0, all that it can", x.told(0, 2), 3);
        is("the net 1, what is left", x.told(1, 2), 1);
        is("the net 2, of none", x.told(2, 2), 0);
        is("told(2, 3), of none", x.told(2, 3), 0);

        test("each catches what it would by then");
        CoracleMakers y = stillPair(12, 12, 1, 1);
        y.send(1, 1);
        is("caught, together before but apart by then", y.pass(1), 0);
        y.send(1, 0);
        is("caught, apart before but together by then", y.pass(1), 3);
        CoracleMakers last = stillWater();
        last.make(4, 2, 1);
        last.make(12, 0, 1);
        last.pass(25);
        last.net(0, 1);
        is("caught in the hour in which the first sinks", last.pass(1), 3);
        is("afloat", last.about(0, 8), 0);
        is("caught behind it", last.pass(1), 0);

        test("The reach has as many salmon less");
        CoracleMakers z = stillPair(12, 12, 1, 1);
        sendBoth(z, 1);
        z.pass(1);
        salmon(z, 4, 1, 4, 4, 4, 4, 4, 4, 4, 4, 4, 4, 4, 4, 4, 7);
        is("caught, the last one", z.pass(1), 1);
        salmon(z, 4, 0, 4, 4, 4, 4, 4, 4, 4, 4, 4, 4, 4, 4, 4, 10);
    }

    private static void sharing() {
        test("the first coracle gets half of these, rounded up ... the second one gets the others");
        CoracleMakers odd = stillPair(12, 12, 1, 1);
        odd.pass(1);
        loads(odd, 2, 1);
        odd.pass(1);
        loads(odd, 3, 1);
        odd.pass(1);
        loads(odd, 3, 1);
        CoracleMakers even = stillPair(12, 12, 2, 2);
        even.pass(1);
        loads(even, 2, 2);

        test("or more, if the second one has no room for the others");
        int[][] secondFull = {{2, 2}, {4, 4}, {7, 5}, {11, 5}, {12, 5}};
        fishDown(stillPair(12, 5, 2, 2), secondFull);
        int[][] justRoom = {{2, 1}, {4, 2}, {6, 3}, {8, 4}, {11, 4}, {12, 4}};
        fishDown(stillPair(12, 4, 1, 1), justRoom);

        test("but at most as many as it has room for");
        int[][] firstFull = {{2, 2}, {4, 4}, {5, 7}, {5, 11}, {5, 12}};
        fishDown(stillPair(5, 12, 2, 2), firstFull);
        int[][] bothFull = {{2, 1}, {4, 2}, {4, 4}, {4, 4}};
        fishDown(stillPair(4, 4, 1, 1), bothFull);
    }

    /** Both fish at the market, then one reach farther down each hour. Rows: the loads of both behind each hour. */
    private static void fishDown(CoracleMakers x, int[][] rows) {
        for (int h = 0; h < rows.length; h++) {
            sendBoth(x, h);
            x.pass(1);
            loads(x, rows[h][0], rows[h][1]);
        }
    }

    // ---- an hour: 3. tar, water and sinking

    private static CoracleMakers alone(int laths, int hide, int hours) {
        CoracleMakers x = stillWater();
        x.make(laths, hide, 1);
        x.pass(hours);
        return x;
    }

    private static void tarAndWater(CoracleMakers x, int tar, int water) {
        is("tar behind hour " + x.count(0), x.about(0, 5), tar);
        is("water behind hour " + x.count(0), x.about(0, 6), water);
        x.pass(1);
    }

    private static void leaking() {
        test("the tar of each is 1 less (at least 0)");
        CoracleMakers bare = alone(12, 0, 1);
        tarAndWater(bare, 29, 0);
        bare.pass(27);
        tarAndWater(bare, 1, 0);
        tarAndWater(bare, 0, 1);
        tarAndWater(bare, 0, 2);
        tarAndWater(bare, 0, 3);

        test("with an ox hide 1, if the tar is 0");
        CoracleMakers ox = alone(12, 0, 28);
        tarAndWater(ox, 2, 0);
        tarAndWater(ox, 1, 0);
        tarAndWater(ox, 0, 1);
        tarAndWater(ox, 0, 2);

        test("with a horse hide 1, if the tar is less than 8");
        CoracleMakers horse = alone(12, 1, 21);
        tarAndWater(horse, 9, 0);
        tarAndWater(horse, 8, 0);
        tarAndWater(horse, 7, 1);
        tarAndWater(horse, 6, 2);
        horse.pass(4);
        tarAndWater(horse, 1, 7);
        tarAndWater(horse, 0, 8);
        tarAndWater(horse, 0, 9);

        test("with a calico one 3, if the tar is 0, and 2, if it is 1 to 7");
        CoracleMakers calico = alone(12, 2, 21);
        tarAndWater(calico, 9, 0);
        tarAndWater(calico, 8, 0);
        tarAndWater(calico, 7, 2);
        tarAndWater(calico, 6, 4);
        calico.pass(3);
        tarAndWater(calico, 2, 12);
        tarAndWater(calico, 1, 14);
        tarAndWater(calico, 0, 17);
        tarAndWater(calico, 0, 20);
    }

    private static void sinking() {
        test("With as much water as 2 * its laths or more it sinks");
        int[][] rows = {{4, 0, 36, 7, 8}, {12, 0, 52, 23, 24}, {4, 1, 29, 7, 8}, {12, 1, 45, 23, 24},
            {4, 2, 25, 6, 8}, {7, 2, 28, 12, 14}, {8, 2, 29, 14, 17}, {9, 2, 30, 17, 20}, {12, 2, 32, 23, 26}};
        for (int[] row : rows) {
            CoracleMakers x = stillWater();
            x.make(row[0], row[1], 1);
            x.pass(20);
            x.pass(row[2] - 20);
            is("afloat with water " + row[3], x.about(0, 8), 1);
            is("water ahead of sinking", x.about(0, 6), row[3]);
            x.pass(1);
            is("afloat with water " + row[4], x.about(0, 8), 0);
            is("water behind sinking", x.about(0, 6), row[4]);
        }

        test("its load is lost, it is not afloat any more");
        CoracleMakers x = loadedCalico();
        is("load of all ahead of it", x.count(6), 4);
        is("load ahead of it", x.about(0, 7), 2);
        x.pass(1);
        loads(x, 0, 2);
        is("load of all", x.count(6), 2);
        is("afloat", x.about(0, 8), 0);
        is("afloat in all", x.count(4), 1);
        is("afloat at the reach", x.reach(3, 1), 0);
        is("caught in all", x.told(0, 2), 4);

        test("all else of it stays as it is (also its net; sent, it does not move)");
        abouts(x, 0, 4, 2, 6, 3, 3, 4, 8, 0, 0, 1);
        is("partner of the other", x.about(1, 9), 0);
        allDrifts(x, 5);
        is("send of the sunk one", x.send(0, 0), 3);
        x.pass(9);
        abouts(x, 0, 4, 2, 6, 3, 0, 4, 8, 0, 0, 1);
        is("tar of the other", x.about(1, 5), 0);
    }

    /** A calico coracle at the reach 3, one hour from sinking, with 2 salmon; the other one of its net is at 2. */
    private static CoracleMakers loadedCalico() {
        CoracleMakers x = stillWater();
        allRuns(x, 0);
        x.make(4, 2, 6);
        x.make(12, 0, 6);
        x.net(0, 1);
        x.pass(1);
        x.send(0, 3);
        x.send(1, 2);
        x.pass(24);
        return x;
    }

    // ---- an hour: 4. salmon go up, and 5. salmon come in

    private static void climbing() {
        test("In hours with the remainder 3 by 4 salmon go up");
        CoracleMakers x = new CoracleMakers();
        int[] spawned = {0, 0, 0, 2, 2, 2, 2, 4, 4, 4, 4, 6, 6, 6, 6, 8};
        for (int h = 0; h < spawned.length; h++) {
            x.pass(1);
            is("spawned behind the hour " + h, x.count(9), spawned[h]);
        }

        test("half (cut) of the salmon of each reach ... those of the reach 0 are gone, to spawn");
        halfCut();

        test("as they are now, all at once, come to the reach above");
        CoracleMakers odd = new CoracleMakers();
        allRuns(odd, 0);
        odd.setRun(0, 7);
        odd.pass(4);
        salmon(odd, 4, 4, 4, 4, 4, 4, 4, 4, 4, 4, 4, 4, 4, 4, 7, 6);
        odd.setRun(0, 0);
        odd.pass(4);
        salmon(odd, 4, 4, 4, 4, 4, 4, 4, 4, 4, 4, 4, 4, 4, 5, 7, 3);
        odd.pass(4);
        salmon(odd, 4, 4, 4, 4, 4, 4, 4, 4, 4, 4, 4, 4, 4, 6, 5, 2);
        odd.pass(4);
        salmon(odd, 4, 4, 4, 4, 4, 4, 4, 4, 4, 4, 4, 4, 5, 5, 4, 1);
        odd.pass(4);
        salmon(odd, 4, 4, 4, 4, 4, 4, 4, 4, 4, 4, 4, 4, 5, 5, 2, 1);

        test("half of the salmon of each reach, as they are now: behind the nets of the hour");
        CoracleMakers caught = stillWater();
        caught.make(12, 0, 1);
        caught.make(12, 0, 1);
        caught.pass(3);
        caught.net(0, 1);
        is("caught in the hour 3", caught.pass(1), 3);
        is("spawned of the one left", caught.count(9), 0);
        salmon(caught, 3, 4, 4, 4, 4, 4, 4, 4, 4, 4, 4, 4, 4, 4, 8, 10);

        test("What would be, with those that stay, more than 60 in a reach is gone as well, but is not told as spawned.");
        CoracleMakers full = new CoracleMakers();
        allRuns(full, 9);
        for (int i = 0; i < 20; i++) {
            full.pass(40);
        }
        full.pass(3);
        is("salmon of all reaches, each with 60", full.count(7), 960);
        int before = full.count(9);
        full.pass(1);
        salmon(full, 60, 60, 60, 60, 60, 60, 60, 60, 60, 60, 60, 60, 60, 60, 60, 39);
        is("spawned, of the reach 0 alone", full.count(9) - before, 30);
    }

    /** Of 4 salmon at the market nets take 3 in the hour 0 and the last one in the hour 1; then 2 come at each climb. */
    private static void halfCut() {
        int[][] spawned = {{2, 4, 6}, {0, 1, 3}, {0, 1, 2}};
        int[][] left = {{4, 4, 4}, {3, 4, 4}, {2, 3, 4}};
        for (int fished = 0; fished < 3; fished++) {
            CoracleMakers x = stillWater();
            x.make(12, 0, 1);
            x.make(12, 0, 1);
            if (fished > 0) {
                x.net(0, 1);
                x.pass(fished);
                x.send(0, 1);
            }
            x.pass(4 - fished);
            for (int climb = 0; climb < 3; climb++) {
                is("spawned, fished " + fished + " hours", x.count(9), spawned[fished][climb]);
                is("salmon at the market, fished " + fished + " hours", x.reach(0, 0), left[fished][climb]);
                x.pass(4);
            }
        }
    }

    private static void comingIn() {
        test("As many salmon as the table tells come into the reach 15 (at most 60 then).");
        int[][] rows = {{0, 53}, {6, 59}, {7, 60}, {8, 60}, {9, 60}};
        for (int[] row : rows) {
            CoracleMakers x = new CoracleMakers();
            allRuns(x, 9);
            x.pass(10);
            is("salmon at the mouth", x.reach(15, 0), 53);
            int spawned = x.count(9);
            x.setRun(2, row[0]);
            x.pass(1);
            is("salmon at the mouth, " + row[0] + " more", x.reach(15, 0), row[1]);
            is("spawned", x.count(9), spawned);
        }
        CoracleMakers full = new CoracleMakers();
        allRuns(full, 9);
        mouthSalmon(full, 13, 22, 31, 25, 34, 43, 52, 35, 44, 53, 60, 39, 48, 57, 60, 39);

        test("come into the reach 15: behind the climb of the hour");
        CoracleMakers late = new CoracleMakers();
        allRuns(late, 0);
        late.setRun(3, 9);
        late.pass(4);
        salmon(late, 4, 4, 4, 4, 4, 4, 4, 4, 4, 4, 4, 4, 4, 4, 4, 11);

        test("The hour is 1 greater.");
        CoracleMakers x = new CoracleMakers();
        for (int h = 0; h < 20; h++) {
            is("count(0)", x.count(0), h);
            x.pass(1);
        }
    }

    // ---- exceptions

    private static void exceptions() {
        test("A method that throws an exception changes nothing.");
        CoracleMakers x = inUse();
        CoracleMakers untouched = inUse();
        for (Call call : wrongCalls(x)) {
            try {
                call.run();
                is("a wrong call that throws nothing", 1, 0);
            } catch (RuntimeException e) {
                is("digest", x.digest(), untouched.digest());
            }
        }
        for (int h = 0; h < 40; h++) {
            is("pass(1)", x.pass(1), untouched.pass(1));
            is("digest behind hour " + h, x.digest(), untouched.digest());
        }

        test("If several exceptions apply, the one that is named first is thrown.");
        firstNamedOfRiver();
        firstNamedOfMaking();
        firstNamedOfHours();
    }

    /** No coins and six coracles: 0 and 1 with a net and loads at 2, 2 and 3 at the market, 4 sunk there, 5 at 3. */
    private static CoracleMakers inUse() {
        CoracleMakers x = stillPair(12, 8, 2, 3);
        x.make(4, 1, 1);
        x.make(4, 1, 2);
        x.make(4, 2, 3);
        x.make(4, 2, 4);
        x.buy(3, 9);
        x.tar(5);
        x.pass(1);
        sendBoth(x, 2);
        x.pass(19);
        x.send(5, 3);
        x.pass(6);
        return x;
    }

    private static Call[] wrongCalls(CoracleMakers x) {
        return new Call[] {
            () -> x.setDrift(8, 5), () -> x.setDrift(0, 6), () -> x.setRun(8, 9), () -> x.setRun(0, 10),
            () -> x.buy(4, 1), () -> x.buy(3, 41), () -> x.buy(3, 1),
            () -> x.make(4, 3, 1), () -> x.make(3, 0, 1), () -> x.make(4, 0, 7), () -> x.make(4, 0, 1),
            () -> x.net(2, 6), () -> x.net(6, 2), () -> x.net(3, 3), () -> x.net(2, 0), () -> x.net(1, 2),
            () -> x.send(6, 1), () -> x.send(0, 16), () -> x.tar(6), () -> x.tar(0), () -> x.tar(4), () -> x.tar(2),
            () -> x.land(6), () -> x.land(0), () -> x.land(4),
            () -> x.about(6, 0), () -> x.about(0, 10), () -> x.told(1, 0), () -> x.told(0, 4),
            () -> x.reach(16, 0), () -> x.reach(0, 2), () -> x.count(13),
            () -> x.pass(41), () -> x.meets(1), () -> x.sinks(6), () -> x.foresee(41, 0), () -> x.foresee(1, 13),
            () -> x.advise(1, 1), () -> x.advise(0, 11),
        };
    }

    private static void firstNamedOfRiver() {
        CoracleMakers x = new CoracleMakers();
        fails(x, "setDrift(-1, -1)", INDEX, () -> x.setDrift(-1, -1));
        fails(x, "setDrift(8, 6)", INDEX, () -> x.setDrift(8, 6));
        fails(x, "setRun(-1, -1)", INDEX, () -> x.setRun(-1, -1));
        fails(x, "setRun(8, 10)", INDEX, () -> x.setRun(8, 10));
    }

    private static void firstNamedOfMaking() {
        CoracleMakers x = inUse();
        is("coins", x.count(1), 0);
        fails(x, "buy(4, 0)", INDEX, () -> x.buy(4, 0));
        fails(x, "buy(-1, 41)", INDEX, () -> x.buy(-1, 41));
        fails(x, "buy(4, 1) without coins", INDEX, () -> x.buy(4, 1));
        fails(x, "buy(0, 41) without coins", ARGUMENT, () -> x.buy(0, 41));
        is("made", x.count(3), 6);
        fails(x, "make(3, 3, 1)", INDEX, () -> x.make(3, 3, 1));
        fails(x, "make(4, -1, 7)", INDEX, () -> x.make(4, -1, 7));
        fails(x, "make(4, 3, 1) of a seventh", INDEX, () -> x.make(4, 3, 1));
        fails(x, "make(13, 0, 1) of a seventh", ARGUMENT, () -> x.make(13, 0, 1));
        fails(x, "make(4, 0, 0) of a seventh", ARGUMENT, () -> x.make(4, 0, 0));
        fails(x, "net(6, 6)", INDEX, () -> x.net(6, 6));
        fails(x, "net(0, 6), 0 has a net", INDEX, () -> x.net(0, 6));
        fails(x, "net(-1, 1), 1 has a net", INDEX, () -> x.net(-1, 1));
        fails(x, "net(0, 0), 0 has a net", ARGUMENT, () -> x.net(0, 0));
        fails(x, "tar(6) without coins", INDEX, () -> x.tar(6));
        fails(x, "land(6)", INDEX, () -> x.land(6));
        CoracleMakers bare = new CoracleMakers();
        for (int i = 0; i < 3; i++) {
            bare.make(12, 2, 1);
        }
        fails(bare, "make(13, 2, 1) without a hide", ARGUMENT, () -> bare.make(13, 2, 1));
        bare.make(12, 0, 1);
        fails(bare, "make(13, 0, 1) out of 2 laths", ARGUMENT, () -> bare.make(13, 0, 1));
        fails(bare, "make(4, 3, 1) out of 2 laths", INDEX, () -> bare.make(4, 3, 1));
    }

    private static void firstNamedOfHours() {
        CoracleMakers x = inUse();
        fails(x, "foresee(0, 13)", ARGUMENT, () -> x.foresee(0, 13));
        fails(x, "foresee(41, -1)", ARGUMENT, () -> x.foresee(41, -1));
        fails(x, "advise(1, 0)", INDEX, () -> x.advise(1, 0));
        fails(x, "advise(-1, 11)", INDEX, () -> x.advise(-1, 11));
    }
}
