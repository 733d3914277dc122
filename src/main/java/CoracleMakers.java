/** Coracle makers on a river. */
public final class CoracleMakers {
    private static final int TABLE_HOURS = 8;
    private static final int MOST_DRIFT = 5;
    private static final int FIRST_DRIFT = 1;
    private static final int MOST_RUN = 9;
    private static final int FIRST_RUN = 3;

    private static final int REACHES = 16;
    private static final int MARKET = 0;
    private static final int MOUTH = REACHES - 1;
    private static final int MOST_SALMON = 60;
    private static final int FIRST_SALMON = 4;
    private static final int CLIMB_EVERY = 4;
    private static final int CLIMB_REMAINDER = 3;

    private static final int OX = 0;
    private static final int HORSE = 1;
    private static final int CALICO = 2;
    private static final int HIDES = 3;
    private static final int LATHS = HIDES;
    private static final int WARES = 4;
    /** What one of each ware costs, in the order of buy(). */
    private static final int[] PRICES = {4, 3, 1, 1};
    private static final int MOST_BOUGHT = 40;
    private static final int FIRST_COINS = 12;
    private static final int FIRST_HIDES = 3;
    private static final int FIRST_LATHS = 50;

    private static final int MOST_CORACLES = 6;
    /** A coracle has one net at most, so there are no more than this. */
    private static final int MOST_NETS = MOST_CORACLES / 2;
    private static final int LEAST_LATHS = 4;
    private static final int MOST_LATHS = 12;
    private static final int LEAST_SKILL = 1;
    private static final int MOST_SKILL = 6;
    private static final int FULL_TAR = 30;
    private static final int THIN_TAR = 8;
    private static final int TAR_PRICE = 3;
    private static final int SALMON_PRICE = 2;
    private static final int NOBODY = -1;

    private static final int ABOUT_KINDS = 10;
    private static final int TOLD_KINDS = 4;
    private static final int REACH_KINDS = 2;
    private static final int COUNT_KINDS = 13;

    private static final int MOST_PASSED = 40;
    private static final int MOST_ADVISED = 10;
    private static final int FARTHEST = 90;
    private static final int NEVER = -1;

    private static final long DIGEST_START = 1487L;
    private static final long DIGEST_FACTOR = 31L;

    private final int[] drifts = new int[TABLE_HOURS];
    private final int[] runs = new int[TABLE_HOURS];
    private final River now = new River();
    /** The one copy on which hours to come are tried out, made once and used again. */
    private final River trial = new River();

    public CoracleMakers() {
        for (int hour = 0; hour < TABLE_HOURS; hour++) {
            drifts[hour] = FIRST_DRIFT;
            runs[hour] = FIRST_RUN;
        }
    }

    // ---- the river

    public int setDrift(int hour, int by) throws IndexOutOfBoundsException, IllegalArgumentException {
        checkIndex(hour, TABLE_HOURS);
        checkArgument(by, 0, MOST_DRIFT);
        int before = drifts[hour];
        drifts[hour] = by;
        return before;
    }

    public int setRun(int hour, int many) throws IndexOutOfBoundsException, IllegalArgumentException {
        checkIndex(hour, TABLE_HOURS);
        checkArgument(many, 0, MOST_RUN);
        int before = runs[hour];
        runs[hour] = many;
        return before;
    }

    // ---- making

    public int buy(int what, int many)
            throws IndexOutOfBoundsException, IllegalArgumentException, IllegalStateException {
        checkIndex(what, WARES);
        checkArgument(many, 1, MOST_BOUGHT);
        int cost = PRICES[what] * many;
        checkState(now.coins >= cost);
        now.coins -= cost;
        now.stores[what] += many;
        return now.stores[what];
    }

    public int make(int laths, int hide, int skill)
            throws IndexOutOfBoundsException, IllegalArgumentException, IllegalStateException {
        checkIndex(hide, HIDES);
        checkArgument(laths, LEAST_LATHS, MOST_LATHS);
        checkArgument(skill, LEAST_SKILL, MOST_SKILL);
        checkState(now.made < MOST_CORACLES && now.stores[LATHS] >= laths && now.stores[hide] >= 1);
        return now.makeCoracle(laths, hide, skill);
    }

    public int net(int one, int other)
            throws IndexOutOfBoundsException, IllegalArgumentException, IllegalStateException {
        checkIndex(one, now.made);
        checkIndex(other, now.made);
        if (one == other) {
            throw new IllegalArgumentException();
        }
        checkState(now.coracleOf(one).partner == NOBODY && now.coracleOf(other).partner == NOBODY);
        return now.tieNet(one, other);
    }

    public int send(int coracle, int goal) throws IndexOutOfBoundsException {
        checkIndex(coracle, now.made);
        checkIndex(goal, REACHES);
        Coracle sent = now.coracleOf(coracle);
        int before = sent.goal;
        sent.goal = goal;
        return before;
    }

    public int tar(int coracle) throws IndexOutOfBoundsException, IllegalStateException {
        checkIndex(coracle, now.made);
        Coracle tarred = now.coracleOf(coracle);
        checkState(tarred.isAfloatAt(MARKET) && now.coins >= TAR_PRICE);
        int poured = tarred.water;
        now.coins -= TAR_PRICE;
        tarred.tar = FULL_TAR;
        tarred.water = 0;
        return poured;
    }

    public int land(int coracle) throws IndexOutOfBoundsException, IllegalStateException {
        checkIndex(coracle, now.made);
        Coracle landed = now.coracleOf(coracle);
        checkState(landed.isAfloatAt(MARKET));
        int income = SALMON_PRICE * landed.load;
        now.coins += income;
        now.sold += landed.load;
        landed.load = 0;
        return income;
    }

    // ---- what there is

    public int about(int coracle, int what) throws IndexOutOfBoundsException {
        checkIndex(coracle, now.made);
        checkIndex(what, ABOUT_KINDS);
        return now.coracleOf(coracle).tell(what);
    }

    public int told(int net, int what) throws IndexOutOfBoundsException {
        checkIndex(net, now.tied);
        checkIndex(what, TOLD_KINDS);
        return now.tellOfNet(net, what);
    }

    public int reach(int reach, int what) throws IndexOutOfBoundsException {
        checkIndex(reach, REACHES);
        checkIndex(what, REACH_KINDS);
        return now.tellOfReach(reach, what);
    }

    public int count(int what) throws IndexOutOfBoundsException {
        checkIndex(what, COUNT_KINDS);
        return now.tellCount(what);
    }

    // ---- hours and what would be

    public int pass(int hours) throws IllegalArgumentException {
        checkArgument(hours, 1, MOST_PASSED);
        return letHoursPass(now, hours);
    }

    public int meets(int net) throws IndexOutOfBoundsException {
        checkIndex(net, now.tied);
        trial.becomeLike(now);
        for (int hours = 0; hours <= FARTHEST; hours++) {
            if (trial.isTogether(trial.netOf(net))) {
                return hours;
            }
            letHoursPass(trial, 1);
        }
        return NEVER;
    }

    public int sinks(int coracle) throws IndexOutOfBoundsException {
        checkIndex(coracle, now.made);
        trial.becomeLike(now);
        for (int hours = 0; hours <= FARTHEST; hours++) {
            if (!trial.coracleOf(coracle).afloat) {
                return hours;
            }
            letHoursPass(trial, 1);
        }
        return NEVER;
    }

    public int foresee(int hours, int what) throws IllegalArgumentException, IndexOutOfBoundsException {
        checkArgument(hours, 1, MOST_PASSED);
        checkIndex(what, COUNT_KINDS);
        trial.becomeLike(now);
        letHoursPass(trial, hours);
        return trial.tellCount(what);
    }

    public int advise(int net, int hours) throws IndexOutOfBoundsException, IllegalArgumentException {
        checkIndex(net, now.tied);
        checkArgument(hours, 1, MOST_ADVISED);
        int best = 0;
        int most = -1;
        for (int goal = 0; goal < REACHES; goal++) {
            int caught = caughtWithGoal(net, goal, hours);
            if (caught > most) {
                most = caught;
                best = goal;
            }
        }
        return best;
    }

    public double mean() {
        if (now.made == 0) {
            return 0.0;
        }
        return (double) now.tarOfAll() / now.made;
    }

    public long digest() {
        long d = digestOfCounts(DIGEST_START);
        d = digestOfTables(d);
        d = digestOfCoracles(d);
        d = digestOfNets(d);
        return digestOfReaches(d);
    }

    // ---- parts of the calls above

    private static void checkIndex(int value, int size) throws IndexOutOfBoundsException {
        if (value < 0 || value >= size) {
            throw new IndexOutOfBoundsException();
        }
    }

    private static void checkArgument(int value, int least, int most) throws IllegalArgumentException {
        if (value < least || value > most) {
            throw new IllegalArgumentException();
        }
    }

    private static void checkState(boolean allowed) throws IllegalStateException {
        if (!allowed) {
            throw new IllegalStateException();
        }
    }

    private int letHoursPass(River river, int hours) {
        int caught = 0;
        for (int i = 0; i < hours; i++) {
            int row = Math.floorMod(river.hour, TABLE_HOURS);
            caught += river.liveHour(drifts[row], runs[row]);
        }
        return caught;
    }

    private int caughtWithGoal(int net, int goal, int hours) {
        trial.becomeLike(now);
        Net tried = trial.netOf(net);
        trial.coracleOf(tried.first).goal = goal;
        trial.coracleOf(tried.second).goal = goal;
        letHoursPass(trial, hours);
        return tried.caught;
    }

    private static long digestWith(long d, int x) {
        return d * DIGEST_FACTOR + x;
    }

    private long digestOfCounts(long start) {
        long d = start;
        for (int what = 0; what < COUNT_KINDS; what++) {
            d = digestWith(d, now.tellCount(what));
        }
        return d;
    }

    private long digestOfTables(long start) {
        long d = start;
        for (int hour = 0; hour < TABLE_HOURS; hour++) {
            d = digestWith(d, drifts[hour]);
            d = digestWith(d, runs[hour]);
        }
        return d;
    }

    private long digestOfCoracles(long start) {
        long d = start;
        for (int coracle = 0; coracle < now.made; coracle++) {
            for (int what = 0; what < ABOUT_KINDS; what++) {
                d = digestWith(d, now.coracleOf(coracle).tell(what));
            }
        }
        return d;
    }

    private long digestOfNets(long start) {
        long d = start;
        for (int net = 0; net < now.tied; net++) {
            for (int what = 0; what < TOLD_KINDS; what++) {
                d = digestWith(d, now.tellOfNet(net, what));
            }
        }
        return d;
    }

    private long digestOfReaches(long start) {
        long d = start;
        for (int reach = 0; reach < REACHES; reach++) {
            for (int what = 0; what < REACH_KINDS; what++) {
                d = digestWith(d, now.tellOfReach(reach, what));
            }
        }
        return d;
    }

    /** A row for a coracle; until it is made it is not afloat, and without tar and load. */
    private static final class Coracle {
        int laths;
        int hide;
        int skill;
        int reach;
        int goal;
        int tar;
        int water;
        int load;
        boolean afloat;
        int partner = NOBODY;

        void becomeNew(int ofLaths, int ofHide, int ofSkill) {
            laths = ofLaths;
            hide = ofHide;
            skill = ofSkill;
            tar = FULL_TAR;
            afloat = true;
        }

        void becomeLike(Coracle other) {
            laths = other.laths;
            hide = other.hide;
            skill = other.skill;
            reach = other.reach;
            goal = other.goal;
            tar = other.tar;
            water = other.water;
            load = other.load;
            afloat = other.afloat;
            partner = other.partner;
        }

        boolean isAfloatAt(int place) {
            return afloat && reach == place;
        }

        int room() {
            return laths - load;
        }

        void move(int drift) {
            reach = Math.min(MOUTH, reach + drift);
            if (goal > reach) {
                reach = Math.min(goal, reach + skill);
            } else {
                reach = Math.max(goal, reach - skill);
            }
        }

        void wear() {
            tar = Math.max(0, tar - 1);
            water += leak();
            if (water >= 2 * laths) {
                afloat = false;
                load = 0;
            }
        }

        int leak() {
            if (hide == OX) {
                return tar == 0 ? 1 : 0;
            }
            if (hide == HORSE) {
                return tar < THIN_TAR ? 1 : 0;
            }
            if (tar == 0) {
                return 3;
            }
            return tar < THIN_TAR ? 2 : 0;
        }

        int tell(int what) {
            switch (what) {
                case 0: return laths;
                case 1: return hide;
                case 2: return skill;
                case 3: return reach;
                case 4: return goal;
                case 5: return tar;
                case 6: return water;
                case 7: return load;
                case 8: return afloat ? 1 : 0;
                default: return partner;
            }
        }
    }

    /** A row for a net, with the numbers of its coracles. */
    private static final class Net {
        int first;
        int second;
        int caught;

        void becomeLike(Net other) {
            first = other.first;
            second = other.second;
            caught = other.caught;
        }
    }

    /** All that hours change: the coracles, nets, salmon, stores and what is counted. */
    private static final class River {
        final Coracle[] coracles = new Coracle[MOST_CORACLES];
        final Net[] nets = new Net[MOST_NETS];
        final int[] salmon = new int[REACHES];
        /** In the order of buy(): the sorts of hides, then laths. */
        final int[] stores = {FIRST_HIDES, FIRST_HIDES, FIRST_HIDES, FIRST_LATHS};
        int hour;
        int coins = FIRST_COINS;
        int made;
        int tied;
        int sold;
        int spawned;

        River() {
            for (int i = 0; i < MOST_CORACLES; i++) {
                coracles[i] = new Coracle();
            }
            for (int i = 0; i < MOST_NETS; i++) {
                nets[i] = new Net();
            }
            for (int i = 0; i < REACHES; i++) {
                salmon[i] = FIRST_SALMON;
            }
        }

        void becomeLike(River other) {
            for (int i = 0; i < MOST_CORACLES; i++) {
                coracles[i].becomeLike(other.coracles[i]);
            }
            for (int i = 0; i < MOST_NETS; i++) {
                nets[i].becomeLike(other.nets[i]);
            }
            System.arraycopy(other.salmon, 0, salmon, 0, REACHES);
            System.arraycopy(other.stores, 0, stores, 0, WARES);
            hour = other.hour;
            coins = other.coins;
            made = other.made;
            tied = other.tied;
            sold = other.sold;
            spawned = other.spawned;
        }

        /** Numbers are checked by the callers; the test is there so that no index can fail. */
        Coracle coracleOf(int number) {
            return number >= 0 && number < MOST_CORACLES ? coracles[number] : coracles[0];
        }

        /** As with coracleOf(). */
        Net netOf(int number) {
            return number >= 0 && number < MOST_NETS ? nets[number] : nets[0];
        }

        /** As with coracleOf(): a place that is no reach has no salmon. */
        int salmonAt(int reach) {
            return reach >= 0 && reach < REACHES ? salmon[reach] : 0;
        }

        void takeSalmon(int reach, int many) {
            if (reach >= 0 && reach < REACHES) {
                salmon[reach] -= many;
            }
        }

        int makeCoracle(int laths, int hide, int skill) {
            int number = made;
            stores[LATHS] -= laths;
            if (hide >= OX && hide <= CALICO) {
                stores[hide]--;
            }
            coracleOf(number).becomeNew(laths, hide, skill);
            made++;
            return number;
        }

        int tieNet(int one, int other) {
            int number = tied;
            Net net = netOf(number);
            net.first = one;
            net.second = other;
            coracleOf(one).partner = other;
            coracleOf(other).partner = one;
            tied++;
            return number;
        }

        /** Lets one hour go by, and returns how many salmon all nets catch in it. */
        int liveHour(int drift, int run) {
            moveAll(drift);
            int caught = 0;
            for (int number = 0; number < tied; number++) {
                caught += draw(netOf(number));
            }
            wearAll();
            if (Math.floorMod(hour, CLIMB_EVERY) == CLIMB_REMAINDER) {
                climb();
            }
            salmon[MOUTH] = Math.min(MOST_SALMON, salmon[MOUTH] + run);
            hour++;
            return caught;
        }

        void moveAll(int drift) {
            for (Coracle coracle : coracles) {
                if (coracle.afloat) {
                    coracle.move(drift);
                }
            }
        }

        int draw(Net net) {
            Coracle first = coracleOf(net.first);
            Coracle second = coracleOf(net.second);
            int caught = wouldCatch(net);
            int half = caught - caught / 2;
            int share = Math.min(first.room(), Math.max(half, caught - second.room()));
            takeSalmon(first.reach, caught);
            first.load += share;
            second.load += caught - share;
            net.caught += caught;
            return caught;
        }

        void wearAll() {
            for (Coracle coracle : coracles) {
                if (coracle.afloat) {
                    coracle.wear();
                }
            }
        }

        /** Goes up the river, so that what each reach gives is taken before any comes in. */
        void climb() {
            int below = 0;
            for (int reach = MOUTH; reach >= 0; reach--) {
                int leaving = salmon[reach] / 2;
                salmon[reach] = Math.min(MOST_SALMON, salmon[reach] - leaving + below);
                below = leaving;
            }
            spawned += below;
        }

        boolean isTogether(Net net) {
            Coracle first = coracleOf(net.first);
            Coracle second = coracleOf(net.second);
            return first.afloat && second.isAfloatAt(first.reach);
        }

        int wouldCatch(Net net) {
            if (!isTogether(net)) {
                return 0;
            }
            Coracle first = coracleOf(net.first);
            Coracle second = coracleOf(net.second);
            int hauled = 2 + Math.min(first.skill, second.skill);
            int room = first.room() + second.room();
            return Math.min(salmonAt(first.reach), Math.min(hauled, room));
        }

        int tellOfNet(int number, int what) {
            Net net = netOf(number);
            switch (what) {
                case 0: return net.first;
                case 1: return net.second;
                case 2: return net.caught;
                default: return wouldCatch(net);
            }
        }

        int tellOfReach(int reach, int what) {
            return what == 0 ? salmonAt(reach) : afloatAt(reach);
        }

        int tellCount(int what) {
            switch (what) {
                case 0: return hour;
                case 1: return coins;
                case 2: return stores[LATHS];
                case 3: return made;
                case 4: return afloatInAll();
                case 5: return tied;
                case 6: return loadOfAll();
                case 7: return salmonOfAll();
                case 8: return sold;
                case 9: return spawned;
                case 10: return stores[OX];
                case 11: return stores[HORSE];
                default: return stores[CALICO];
            }
        }

        int afloatAt(int reach) {
            int many = 0;
            for (Coracle coracle : coracles) {
                many += coracle.isAfloatAt(reach) ? 1 : 0;
            }
            return many;
        }

        int afloatInAll() {
            int many = 0;
            for (Coracle coracle : coracles) {
                many += coracle.afloat ? 1 : 0;
            }
            return many;
        }

        int loadOfAll() {
            int all = 0;
            for (Coracle coracle : coracles) {
                all += coracle.load;
            }
            return all;
        }

        int tarOfAll() {
            int all = 0;
            for (Coracle coracle : coracles) {
                all += coracle.tar;
            }
            return all;
        }

        int salmonOfAll() {
            int all = 0;
            for (int here : salmon) {
                all += here;
            }
            return all;
        }
    }
}
