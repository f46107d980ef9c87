/**
 * A city whose common people walk out and sit on a hill: who is OUT, what masters lose by it, how long it
 * lasts, what would be granted, and who had it been that stayed. The words in capitals are those of DOC.md.
 *
 * <p>Sets of MEN, CRAFTS and DEMANDS are bits of an int, the first in the lowest bit. All arrays and all
 * inner objects are made with the object itself and used again: no call makes any.
 */
public final class HillLeavers {
    public static final int NONE = -1;

    private static final int MOST_BYTES = 1600;
    private static final int MOST_CRAFTS = 4;
    private static final int MOST_MEN = 7;
    private static final int MOST_DEMANDS = 5;
    private static final int SETS_OF_MEN = 128;
    private static final int SETS_OF_CRAFTS = 16;
    private static final int SETS_OF_DEMANDS = 32;
    private static final int MOST_UNITS = 30;
    private static final int MOST_WITHIN = 6;
    private static final int MOST_LOAVES = 99;
    private static final int MOST_DAYS = 999;
    private static final int MOST_AHEAD = 60;
    private static final int MOST_PLANNED = 3;
    private static final int MOST_ODDS_DAYS = 4;
    private static final int MOST_ACTS = 40;
    private static final int BOXES = 3;
    private static final int MOST_SEEN = 30;
    private static final int MOST_LATER = 1000;
    private static final int MOST_TIME = 100000;
    private static final int IN_SOME_ALONE = -2;

    private static final int NO_TOKEN = 1;
    private static final int CANT_STAND = 2;
    private static final int TOLD_ALREADY = 3;
    private static final int CANT_BE = 4;
    private static final int NO_CRAFT = 5;

    /** In how many orders so many MEN can leave. */
    private static final int[] ORDERS = {1, 1, 2, 6, 24, 120, 720, 5040};

    private final Tape tape = new Tape();
    private final Reader reader = new Reader(tape);
    private Town town = new Town();
    private final State state = new State();
    /** For trying what would come: a copy of the state, changed freely. */
    private final State trial = new State();
    private final Acts acts = new Acts();
    private final State[] boxes = new State[BOXES];
    private final boolean[] filled = new boolean[BOXES];
    private final Outlook outlook = new Outlook();
    private final Pick pick = new Pick();
    private final Sights sights = new Sights();

    public HillLeavers() {
        for (int i = 0; i < boxes.length; i++) {
            boxes[i] = new State();
        }
    }

    // ---- the TAPE and the CITY

    public int feed(int a, int b, int c, int d, int e) {
        if (tape.length + 20 > MOST_BYTES) {
            return NONE;
        }
        tape.put(a);
        tape.put(b);
        tape.put(c);
        tape.put(d);
        tape.put(e);
        return tape.length;
    }

    public int end(int n) {
        if (n < 0 || n > tape.length) {
            return NONE;
        }
        tape.length = n;
        return n;
    }

    public int city() {
        boolean read = reader.read();
        tape.length = 0;
        if (!read) {
            return NONE;
        }
        town = reader.swap(town);
        state.begin(town);
        acts.clear();
        sights.clear();
        for (int i = 0; i < filled.length; i++) {
            filled[i] = false;
        }
        return town.men;
    }

    public int fault(int what) {
        switch (what) {
            case 0: return reader.fault;
            case 1: return reader.place;
            default: return NONE;
        }
    }

    // ---- what is told and what is now

    public int man(int man, int what) {
        if (!isMan(man)) {
            return NONE;
        }
        boolean isOut = state.isOut(man);
        switch (what) {
            case 0: return isOut ? 1 : 0;
            case 1: return state.loaves[man];
            case 2: return isOut ? state.days[man] : 0;
            case 3: return town.debt[man];
            case 4: return town.others[man];
            case 5: return town.skills[man];
            case 6: return isOut && town.goesBack(state, man) ? 1 : 0;
            default: return NONE;
        }
    }

    public int craft(int craft, int what) {
        if (!isCraft(craft)) {
            return NONE;
        }
        switch (what) {
            case 0: return town.needs[craft];
            case 1: return town.handsOf(craft, state.out);
            case 2: return town.shortBy(state.out) >> craft & 1;
            case 3: return town.harm[craft];
            case 4: return town.members[craft];
            default: return NONE;
        }
    }

    public int demand(int demand, int what) {
        if (!isDemand(demand)) {
            return NONE;
        }
        int granted = state.granted >> demand & 1;
        switch (what) {
            case 0: return town.cost[demand];
            case 1: return town.worth[demand];
            case 2: return granted;
            case 3: return granted == 1 && town.canKeep(demand) ? 1 : 0;
            default: return NONE;
        }
    }

    public int out() {
        return state.out;
    }

    public int loss(int what) {
        switch (what) {
            case 0: return town.lossBy(state.out);
            case 1: return town.lossBy(town.everyone());
            default: return NONE;
        }
    }

    public int broken() {
        int broken = 0;
        for (int demand = 0; demand < MOST_DEMANDS; demand++) {
            if ((state.granted >> demand & 1) == 1 && !town.canKeep(demand)) {
                broken |= 1 << demand;
            }
        }
        return broken;
    }

    public int longest() {
        int longest = NONE;
        int most = NONE;
        for (int man = 0; man < MOST_MEN; man++) {
            if (state.isOut(man) && state.days[man] > most) {
                longest = man;
                most = state.days[man];
            }
        }
        return longest;
    }

    public int hands(int craft, int n) {
        if (!isCraft(craft) || !isAhead(n)) {
            return NONE;
        }
        outlook.look(town, state, n);
        return town.handsOf(craft, outlook.outBehind(n));
    }

    public int about(int what) {
        switch (what) {
            case 0: return town.men;
            case 1: return town.crafts;
            case 2: return town.demands;
            case 3: return state.day;
            case 4: return state.seed;
            case 5: return state.lost;
            case 6: return state.foes;
            case 7: return town.shortBy(state.out);
            case 8: return acts.behind;
            case 9: return acts.ahead;
            case 10: return sights.count;
            case 11: return sights.time;
            case 12: return tape.length;
            case 13: return town.formula.units;
            default: return NONE;
        }
    }

    // ---- ACTS

    public int leave(int man) {
        if (!isMan(man) || state.isOut(man)) {
            return NONE;
        }
        acts.keep(state);
        state.walkOut(1 << man);
        return Integer.bitCount(state.out);
    }

    public int home(int man) {
        if (!isMan(man) || !state.isOut(man)) {
            return NONE;
        }
        acts.keep(state);
        int days = state.days[man];
        state.goHome(1 << man);
        return days;
    }

    public int give(int man, int loaves) {
        if (!isMan(man) || loaves < 1 || loaves > MOST_LOAVES) {
            return NONE;
        }
        acts.keep(state);
        state.getLoaves(man, loaves);
        return state.loaves[man];
    }

    public int grant(int demand) {
        if (!isDemand(demand) || (state.granted >> demand & 1) == 1) {
            return NONE;
        }
        acts.keep(state);
        state.granted |= 1 << demand;
        state.lost += town.cost[demand];
        return state.lost;
    }

    public int day() {
        if (state.day >= MOST_DAYS) {
            return NONE;
        }
        acts.keep(state);
        return town.passDay(state);
    }

    public boolean undo() {
        return acts.takeBack(state);
    }

    public boolean redo() {
        return acts.doAgain(state);
    }

    // ---- who follows whom, which CRAFTS are SHORT

    public int spread(int set) {
        if (!isSetOfMen(set)) {
            return NONE;
        }
        return town.spreadOf(state.out | set);
    }

    public int spark(int what) {
        if (what != 0 && what != 1) {
            return NONE;
        }
        pick.clear();
        int inCity = inCity();
        for (int set = 0; set < SETS_OF_MEN; set++) {
            if ((set & ~inCity) == 0 && town.spreadOf(state.out | set) == town.everyone()) {
                pick.take(set, 0, Integer.bitCount(set));
            }
        }
        return what == 0 ? pick.cost : pick.set;
    }

    public int stop(int set, int what) {
        int allCrafts = (1 << town.crafts) - 1;
        if ((set & ~allCrafts) != 0 || what != 0 && what != 1) {
            return NONE;
        }
        pick.clear();
        int inCity = inCity();
        for (int leaving = 0; leaving < SETS_OF_MEN; leaving++) {
            if ((leaving & ~inCity) == 0 && (set & ~town.shortBy(state.out | leaving)) == 0) {
                pick.take(leaving, 0, Integer.bitCount(leaving));
            }
        }
        if (!pick.found) {
            return NONE;
        }
        return what == 0 ? pick.cost : pick.set;
    }

    public int pillars() {
        int pillars = 0;
        int now = town.shortBy(state.out);
        for (int man = 0; man < MOST_MEN; man++) {
            int bit = 1 << man;
            if (state.isOut(man) && (now & ~town.shortBy(state.out & ~bit)) != 0) {
                pillars |= bit;
            }
        }
        return pillars;
    }

    public int idle() {
        int idle = 0;
        int inCity = inCity();
        int now = town.shortBy(state.out);
        for (int man = 0; man < MOST_MEN; man++) {
            int bit = 1 << man;
            if ((inCity & bit) != 0 && town.shortBy(state.out | bit) == now) {
                idle |= bit;
            }
        }
        return idle;
    }

    public int dearest() {
        int dearest = NONE;
        int most = NONE;
        int inCity = inCity();
        for (int man = 0; man < MOST_MEN; man++) {
            int bit = 1 << man;
            if ((inCity & bit) != 0 && town.lossBy(state.out | bit) > most) {
                dearest = man;
                most = town.lossBy(state.out | bit);
            }
        }
        return dearest;
    }

    public int twins() {
        int twins = 0;
        for (int man = 0; man < town.men && man < MOST_MEN; man++) {
            for (int other = 0; other < man; other++) {
                if (town.skills[man] == town.skills[other]) {
                    twins++;
                }
            }
        }
        return twins;
    }

    public int press(int most, int what) {
        if (most < 0 || most > MOST_MEN || what != 0 && what != 1) {
            return NONE;
        }
        pick.clear();
        int inCity = inCity();
        for (int set = 0; set < SETS_OF_MEN; set++) {
            int count = Integer.bitCount(set);
            if ((set & ~inCity) == 0 && count <= most) {
                pick.take(set, town.lossBy(state.out | set), count);
            }
        }
        return what == 0 ? pick.worth : pick.set;
    }

    public int pays(int demand) {
        if (!isDemand(demand)) {
            return NONE;
        }
        int cost = town.cost[demand];
        int most = town.lossBy(town.everyone());
        if (cost == 0) {
            return 0;
        }
        return most <= 0 ? NONE : (cost + most - 1) / most;
    }

    public int weight(int man, int part) {
        if (!isMan(man) || part != 0 && part != 1) {
            return NONE;
        }
        int men = town.men;
        if (men >= ORDERS.length) {
            return NONE;
        }
        return inLowestTerms(sumOverOrders(man), ORDERS[men], part);
    }

    // ---- loaves

    public int stock() {
        int eaters = Integer.bitCount(state.out);
        if (eaters == 0) {
            return NONE;
        }
        int loaves = 0;
        for (int man = 0; man < MOST_MEN; man++) {
            if (state.isOut(man)) {
                loaves += state.loaves[man];
            }
        }
        return loaves / eaters;
    }

    public int hungry(int n) {
        if (!isAhead(n)) {
            return NONE;
        }
        outlook.look(town, state, n);
        return outlook.hungryBehind(n);
    }

    public int feeds(int man, int n) {
        if (!isMan(man) || !state.isOut(man) || !isCountOfDays(n)) {
            return NONE;
        }
        for (int loaves = 0; loaves <= MOST_LOAVES; loaves++) {
            if (staysOut(man, loaves, n)) {
                return loaves;
            }
        }
        return NONE;
    }

    // ---- what lies ahead

    public int will(int n) {
        if (!isAhead(n)) {
            return NONE;
        }
        outlook.look(town, state, n);
        return outlook.outBehind(n);
    }

    public int lasts() {
        outlook.look(town, state, MOST_AHEAD);
        return outlook.emptyBehind();
    }

    public int costs(int n) {
        if (!isAhead(n)) {
            return NONE;
        }
        outlook.look(town, state, n);
        return outlook.lostBetween(0, n);
    }

    public int ever(int n) {
        if (!isCountOfDays(n)) {
            return NONE;
        }
        outlook.look(town, state, n);
        int ever = 0;
        for (int days = 0; days <= n; days++) {
            ever |= outlook.outBehind(days);
        }
        return ever;
    }

    public int returns(int man) {
        if (!isMan(man) || !state.isOut(man)) {
            return NONE;
        }
        outlook.look(town, state, MOST_AHEAD);
        for (int days = 1; days <= MOST_AHEAD; days++) {
            if ((outlook.outBehind(days) >> man & 1) == 0) {
                return days;
            }
        }
        return NONE;
    }

    public int weakest() {
        outlook.look(town, state, MOST_AHEAD);
        for (int days = 1; days <= MOST_AHEAD; days++) {
            int back = state.out & ~outlook.outBehind(days);
            for (int man = 0; man < MOST_MEN; man++) {
                if ((back >> man & 1) == 1) {
                    return man;
                }
            }
        }
        return NONE;
    }

    public int plan(int n, int what) {
        if (!isCountOfDays(n) || what != 0 && what != 1) {
            return NONE;
        }
        pick.clear();
        int inCity = inCity();
        for (int set = 0; set < SETS_OF_MEN; set++) {
            int count = Integer.bitCount(set);
            if ((set & ~inCity) == 0 && count <= MOST_PLANNED) {
                pick.take(set, lostIfLeft(set, n), count);
            }
        }
        return what == 0 ? pick.worth : pick.set;
    }

    public int bribe(int n, int what) {
        if (!isCountOfDays(n) || what != 0 && what != 1) {
            return NONE;
        }
        pick.clear();
        for (int set = 0; set < SETS_OF_MEN; set++) {
            int count = Integer.bitCount(set);
            if ((set & ~state.out) == 0 && pick.wants(0, count) && endsIfHome(set, n)) {
                pick.take(set, 0, count);
            }
        }
        return what == 0 ? pick.cost : pick.set;
    }

    public int offer(int n, int what) {
        if (n < 0 || n >= MOST_AHEAD || what < 0 || what > 2) {
            return NONE;
        }
        outlook.look(town, state, MOST_AHEAD);
        pickOffer(outlook.lostFrom(n));
        switch (what) {
            case 0: return pick.worth;
            case 1: return pick.cost;
            default: return pick.set;
        }
    }

    public int until(int worth) {
        outlook.look(town, state, MOST_AHEAD);
        for (int n = MOST_AHEAD - 1; n >= 0; n--) {
            pickOffer(outlook.lostFrom(n));
            if (pick.worth >= worth) {
                return n;
            }
        }
        return NONE;
    }

    public int odds(int n, int part) {
        if (n < 0 || n > MOST_ODDS_DAYS || part != 0 && part != 1) {
            return NONE;
        }
        trial.copy(state);
        int upper = 1;
        int lower = 1;
        for (int days = 0; days < n; days++) {
            int out = trial.out | town.followersOf(trial.out);
            upper *= 100 - Math.min(100, town.foeOdds(out));
            lower *= 100;
            town.passDay(trial);
        }
        return inLowestTerms(upper, lower, part);
    }

    // ---- what was SEEN

    public int seen(int man, boolean is) {
        return isMan(man) ? sights.tell(Sights.MAN_OUT, man, is) : NONE;
    }

    public int lacked(int craft, boolean is) {
        return isCraft(craft) ? sights.tell(Sights.CRAFT_SHORT, craft, is) : NONE;
    }

    public int counted(int least, boolean is) {
        return least >= 0 && least <= MOST_MEN ? sights.tell(Sights.AT_LEAST_OUT, least, is) : NONE;
    }

    public boolean untell(int seen) {
        return sights.takeBack(seen);
    }

    public int later(int by) {
        if (by < 0 || by > MOST_LATER || sights.time + by > MOST_TIME) {
            return NONE;
        }
        sights.time += by;
        return sights.time;
    }

    public int fits(int k) {
        sights.countFits(town, k);
        return sights.fit;
    }

    public int sure(int man, int k) {
        if (!isMan(man)) {
            return NONE;
        }
        sights.countFits(town, k);
        if (sights.fit == 0) {
            return NONE;
        }
        if (sights.fitOut[man] == 0) {
            return 0;
        }
        return sights.fitOut[man] == sights.fit ? 1 : IN_SOME_ALONE;
    }

    public int ask(int what, int k) {
        if (what != 0 && what != 1) {
            return NONE;
        }
        sights.countFits(town, k);
        if (sights.fit == 0) {
            return NONE;
        }
        pick.clear();
        for (int man = 0; man < town.men && man < MOST_MEN; man++) {
            int left = Math.max(sights.fitOut[man], sights.fit - sights.fitOut[man]);
            pick.take(man, 0, left);
        }
        if (!pick.found) {
            return NONE;
        }
        return what == 0 ? pick.set : pick.cost;
    }

    // ---- BOXES

    public int image(int box) {
        if (box < 0 || box >= BOXES) {
            return NONE;
        }
        boxes[box].copy(state);
        filled[box] = true;
        return state.day;
    }

    public int back(int box) {
        if (box < 0 || box >= BOXES || !filled[box]) {
            return NONE;
        }
        state.copy(boxes[box]);
        acts.clear();
        return state.day;
    }

    // ---- helpers of the face

    private boolean isMan(int man) {
        return man >= 0 && man < town.men && man < MOST_MEN;
    }

    private boolean isCraft(int craft) {
        return craft >= 0 && craft < town.crafts && craft < MOST_CRAFTS;
    }

    private boolean isDemand(int demand) {
        return demand >= 0 && demand < town.demands && demand < MOST_DEMANDS;
    }

    private boolean isSetOfMen(int set) {
        return (set & ~town.everyone()) == 0;
    }

    /** For the calls that look behind n DAYS, where 0 is now. */
    private static boolean isAhead(int n) {
        return n >= 0 && n <= MOST_AHEAD;
    }

    /** For the calls that want one DAY at least. */
    private static boolean isCountOfDays(int n) {
        return n >= 1 && n <= MOST_AHEAD;
    }

    private int inCity() {
        return town.everyone() & ~state.out;
    }

    private int lostIfLeft(int set, int n) {
        trial.copy(state);
        trial.walkOut(set);
        int lost = 0;
        for (int days = 0; days < n; days++) {
            lost += town.passDay(trial);
        }
        return lost;
    }

    private boolean endsIfHome(int set, int n) {
        trial.copy(state);
        trial.goHome(set);
        for (int days = 0; days < n; days++) {
            town.passDay(trial);
        }
        return trial.out == 0;
    }

    private boolean staysOut(int man, int loaves, int n) {
        trial.copy(state);
        trial.getLoaves(man, loaves);
        for (int days = 0; days < n; days++) {
            town.passDay(trial);
            if (!trial.isOut(man)) {
                return false;
            }
        }
        return true;
    }

    private void pickOffer(int most) {
        pick.clear();
        int free = ((1 << town.demands) - 1) & ~state.granted;
        for (int set = 0; set < SETS_OF_DEMANDS; set++) {
            int cost = sumOf(town.cost, set);
            if ((set & ~free) == 0 && cost <= most) {
                pick.take(set, sumOf(town.worth, set), cost);
            }
        }
    }

    private static int sumOf(int[] row, int set) {
        int sum = 0;
        for (int i = 0; i < row.length; i++) {
            if ((set >> i & 1) == 1) {
                sum += row[i];
            }
        }
        return sum;
    }

    /** By how much LOSS is more as one leaves, all orders of leaving together. */
    private int sumOverOrders(int man) {
        int sum = 0;
        int bit = 1 << man;
        for (int before = 0; before < SETS_OF_MEN; before++) {
            if (isSetOfMen(before) && (before & bit) == 0) {
                int first = Integer.bitCount(before);
                int after = town.men - 1 - first;
                if (first < ORDERS.length && after >= 0 && after < ORDERS.length) {
                    int more = town.lossBy(before | bit) - town.lossBy(before);
                    sum += ORDERS[first] * ORDERS[after] * more;
                }
            }
        }
        return sum;
    }

    private static int inLowestTerms(int upper, int lower, int part) {
        int common = commonDivisor(upper, lower);
        if (common == 0) {
            return NONE;
        }
        return (part == 0 ? upper : lower) / common;
    }

    private static int commonDivisor(int a, int b) {
        int one = a;
        int other = b;
        // Euclid's steps are fewer than 64 for any two ints.
        for (int step = 0; step < 64 && other != 0; step++) {
            int rest = one % other;
            one = other;
            other = rest;
        }
        return one;
    }

    // ---- the classes inside

    /** What can change by ACTS, and is kept in BOXES. */
    private static final class State {
        int out;
        final int[] days = new int[MOST_MEN];
        final int[] loaves = new int[MOST_MEN];
        int lost;
        int foes;
        int granted;
        int day;
        int seed;

        void begin(Town town) {
            out = town.outAtFirst;
            for (int man = 0; man < MOST_MEN; man++) {
                days[man] = 0;
                loaves[man] = town.loavesAtFirst[man];
            }
            lost = 0;
            foes = 0;
            granted = 0;
            day = 0;
            seed = town.draw;
        }

        void copy(State of) {
            out = of.out;
            for (int man = 0; man < MOST_MEN; man++) {
                days[man] = of.days[man];
                loaves[man] = of.loaves[man];
            }
            lost = of.lost;
            foes = of.foes;
            granted = of.granted;
            day = of.day;
            seed = of.seed;
        }

        boolean isOut(int man) {
            return (out >> man & 1) == 1;
        }

        /** The days of who is in the city do not count: they begin as he leaves. */
        void walkOut(int set) {
            for (int man = 0; man < MOST_MEN; man++) {
                if ((set >> man & 1) == 1) {
                    days[man] = 0;
                }
            }
            out |= set;
        }

        void goHome(int set) {
            out &= ~set;
        }

        void getLoaves(int man, int more) {
            if (man >= 0 && man < MOST_MEN) {
                loaves[man] = Math.min(MOST_LOAVES, loaves[man] + more);
            }
        }
    }

    /** A CITY as it is told, and what follows from that for any set of who is OUT. */
    private static final class Town {
        int crafts;
        final int[] needs = new int[MOST_CRAFTS];
        final int[] harm = new int[MOST_CRAFTS];
        final int[] members = new int[MOST_CRAFTS];
        int men;
        final int[] skills = new int[MOST_MEN];
        final int[] loavesAtFirst = new int[MOST_MEN];
        final int[] debt = new int[MOST_MEN];
        final int[] others = new int[MOST_MEN];
        int outAtFirst;
        int demands;
        final int[] cost = new int[MOST_DEMANDS];
        final int[] worth = new int[MOST_DEMANDS];
        final Formula formula = new Formula();
        int foes;
        int raid;
        int draw;
        /** By who is OUT: which CRAFTS are SHORT. */
        final int[] shortCrafts = new int[SETS_OF_MEN];
        /** By which CRAFTS are SHORT: the LOSS of a day. */
        final int[] losses = new int[SETS_OF_CRAFTS];

        void clear() {
            crafts = 0;
            men = 0;
            outAtFirst = 0;
            demands = 0;
            formula.clear();
            foes = 0;
            raid = 0;
            draw = 0;
        }

        /** Makes the tables from what is told. */
        void settle() {
            for (int craft = 0; craft < MOST_CRAFTS; craft++) {
                members[craft] = 0;
                for (int man = 0; man < men && man < MOST_MEN; man++) {
                    members[craft] |= (skills[man] >> craft & 1) << man;
                }
            }
            for (int out = 0; out < SETS_OF_MEN; out++) {
                shortCrafts[out] = 0;
                for (int craft = 0; craft < crafts && craft < MOST_CRAFTS; craft++) {
                    if (handsOf(craft, out) < needs[craft]) {
                        shortCrafts[out] |= 1 << craft;
                    }
                }
            }
            for (int set = 0; set < SETS_OF_CRAFTS; set++) {
                losses[set] = sumOf(harm, set);
            }
        }

        int everyone() {
            return (1 << men) - 1;
        }

        int handsOf(int craft, int out) {
            return craft >= 0 && craft < MOST_CRAFTS ? Integer.bitCount(members[craft] & ~out) : 0;
        }

        int shortBy(int out) {
            return shortCrafts[out & SETS_OF_MEN - 1];
        }

        int lossBy(int out) {
            return losses[shortBy(out) & SETS_OF_CRAFTS - 1];
        }

        /** Of 100; it may be more. */
        int foeOdds(int out) {
            return foes * Integer.bitCount(shortBy(out));
        }

        boolean canKeep(int demand) {
            return demand >= 0 && demand < MOST_DEMANDS && cost[demand] <= lossBy(everyone());
        }

        int followersOf(int out) {
            int followers = 0;
            int count = Integer.bitCount(out);
            for (int man = 0; man < men && man < MOST_MEN; man++) {
                if ((out >> man & 1) == 0 && others[man] >= 1 && others[man] <= count) {
                    followers |= 1 << man;
                }
            }
            return followers;
        }

        int spreadOf(int out) {
            int spread = out;
            // One more at least is OUT by each round but the last.
            for (int round = 0; round <= MOST_MEN; round++) {
                spread |= followersOf(spread);
            }
            return spread;
        }

        boolean goesBack(State state, int man) {
            if (man < 0 || man >= MOST_MEN) {
                return false;
            }
            int gone = Integer.bitCount(state.out) - 1;
            int loaves = state.loaves[man];
            if (!formula.isTold()) {
                return loaves == 0 || gone < others[man];
            }
            int shorts = Integer.bitCount(shortBy(state.out));
            return formula.valueOf(loaves, debt[man], others[man], gone, state.days[man], shorts) != 0;
        }

        /** A DAY: what masters lose on it. */
        int passDay(State state) {
            state.walkOut(followersOf(state.out));
            eat(state);
            int lost = lossBy(state.out);
            state.seed = (state.seed * 137 + 71) % 1000;
            if (state.seed % 100 < foeOdds(state.out)) {
                state.foes++;
                lost += raid;
            }
            state.lost += lost;
            endDay(state);
            return lost;
        }

        private void eat(State state) {
            for (int man = 0; man < MOST_MEN; man++) {
                if (state.isOut(man) && state.loaves[man] > 0) {
                    state.loaves[man]--;
                }
            }
        }

        private void endDay(State state) {
            int goingBack = 0;
            for (int man = 0; man < MOST_MEN; man++) {
                if (state.isOut(man)) {
                    state.days[man]++;
                    goingBack |= goesBack(state, man) ? 1 << man : 0;
                }
            }
            state.goHome(goingBack);
            state.day++;
        }
    }

    /** When one goes BACK: numbers, and below 0 what is known of a MAN and what joins, the joined ahead. */
    private static final class Formula {
        static final int LOAVES = -1;
        static final int DEBT = -2;
        static final int OTHERS = -3;
        static final int GONE = -4;
        static final int DAYS = -5;
        static final int SHORT = -6;
        static final int NOT = -7;
        static final int OR = -8;
        static final int AND = -9;

        /** Each comes from a TOKEN of its own, so that it can't be too short. */
        final int[] code = new int[MOST_BYTES];
        int length;
        int units;
        private final int[] stack = new int[MOST_UNITS];
        private int height;

        void clear() {
            length = 0;
            units = 0;
        }

        boolean isTold() {
            return length > 0;
        }

        void add(int op) {
            if (length >= 0 && length < code.length) {
                code[length] = op;
                length++;
            }
        }

        int valueOf(int loaves, int debt, int others, int gone, int days, int shorts) {
            height = 0;
            for (int i = 0; i < length && i < code.length; i++) {
                int op = code[i];
                switch (op) {
                    case LOAVES: push(loaves); break;
                    case DEBT: push(debt); break;
                    case OTHERS: push(others); break;
                    case GONE: push(gone); break;
                    case DAYS: push(days); break;
                    case SHORT: push(shorts); break;
                    case NOT: push(pop() == 0 ? 1 : 0); break;
                    default:
                        if (op >= 0) {
                            push(op);
                        } else {
                            int right = pop();
                            push(joined(op, pop(), right));
                        }
                }
            }
            return pop();
        }

        private static int joined(int op, int left, int right) {
            switch (op) {
                case OR: return left != 0 || right != 0 ? 1 : 0;
                case AND: return left != 0 && right != 0 ? 1 : 0;
                case -'<': return left < right ? 1 : 0;
                case -'>': return left > right ? 1 : 0;
                case -'=': return left == right ? 1 : 0;
                case -'+': return left + right;
                case -'-': return left - right;
                case -'*': return left * right;
                case -'/': return right == 0 ? 0 : left / right;
                case -'%': return right == 0 ? 0 : left % right;
                default: return 0;
            }
        }

        private void push(int value) {
            if (height >= 0 && height < stack.length) {
                stack[height] = value;
                height++;
            }
        }

        private int pop() {
            if (height <= 0 || height > stack.length) {
                return 0;
            }
            height--;
            return stack[height];
        }
    }

    /** The TAPE, and the TOKENS on it, one at a time. */
    private static final class Tape {
        static final int END = 0;
        static final int WORD = 1;
        static final int NUMBER = 2;
        static final int SIGN = 3;
        static final int BAD = 4;

        private static final String SIGNS = ";()<>=+-*/%";
        /** Each with a blank behind it. */
        private static final String OWN_WORDS =
            "craft needs loss man of loaves debt others out demand cost worth back foes raid draw or and not gone days short ";
        private static final int MOST_LETTERS = 8;
        private static final int MOST_DIGITS = 4;

        final int[] text = new int[MOST_BYTES];
        int length;
        int kind;
        int start;
        int next;
        /** The letters as one number, five bits each. */
        long word;
        int number;

        void put(int four) {
            for (int shift = 24; shift >= 0; shift -= 8) {
                if (length >= 0 && length < text.length) {
                    text[length] = four >>> shift & 255;
                    length++;
                }
            }
        }

        void rewind() {
            next = 0;
            advance();
        }

        void advance() {
            while (next < length && (byteAt(next) == ' ' || byteAt(next) == '\n')) {
                next++;
            }
            start = next;
            int first = byteAt(start);
            if (start >= length) {
                kind = END;
            } else if (isLetter(first)) {
                for (word = 0; next < length && isLetter(byteAt(next)); next++) {
                    word = withLetter(word, byteAt(next));
                }
                kind = next - start <= MOST_LETTERS ? WORD : BAD;
            } else if (isDigit(first)) {
                for (number = 0; next < length && isDigit(byteAt(next)); next++) {
                    number = number * 10 + byteAt(next) - '0';
                }
                kind = next - start <= MOST_DIGITS && !isLetter(byteAt(next)) ? NUMBER : BAD;
            } else {
                kind = SIGNS.indexOf((char) first) >= 0 ? SIGN : BAD;
                next++;
            }
        }

        boolean wordIs(String name) {
            long code = 0;
            for (int i = 0; i < name.length(); i++) {
                code = withLetter(code, name.charAt(i));
            }
            return kind == WORD && word == code;
        }

        /** A word that does not stand for itself. */
        boolean isName() {
            boolean own = false;
            long code = 0;
            for (int i = 0; i < OWN_WORDS.length(); i++) {
                char letter = OWN_WORDS.charAt(i);
                if (letter == ' ') {
                    own = own || word == code;
                    code = 0;
                } else {
                    code = withLetter(code, letter);
                }
            }
            return kind == WORD && !own;
        }

        boolean signIs(char sign) {
            return kind == SIGN && byteAt(start) == sign;
        }

        /** The sign that comes, if it is one of these, or 0. */
        int signOneOf(String signs) {
            int sign = byteAt(start);
            return kind == SIGN && signs.indexOf((char) sign) >= 0 ? sign : 0;
        }

        private int byteAt(int place) {
            return place >= 0 && place < length && place < text.length ? text[place] : NONE;
        }

        private static long withLetter(long code, int letter) {
            return code * 32 + letter - 'a' + 1;
        }

        private static boolean isLetter(int sign) {
            return sign >= 'a' && sign <= 'z';
        }

        private static boolean isDigit(int sign) {
            return sign >= '0' && sign <= '9';
        }
    }

    /** Reads a CITY from the TAPE. Behind its first FAULT it goes on without doing anything. */
    private static final class Reader {
        private static final int OR_LEVEL = 0;
        private static final int AND_LEVEL = 1;
        private static final int RELATION_LEVEL = 2;
        private static final int SUM_LEVEL = 3;
        private static final int TERM_LEVEL = 4;
        private static final int UNIT_LEVEL = 5;

        private final Tape tape;
        /** A text is read into this one, so that the CITY stays if it has a FAULT. */
        private Town draft = new Town();
        int fault;
        int place = NONE;
        private final long[] craftNames = new long[MOST_CRAFTS];
        private final long[] manNames = new long[MOST_MEN];
        private final long[] demandNames = new long[MOST_DEMANDS];
        private boolean backTold;
        private boolean foesTold;
        private boolean drawTold;

        Reader(Tape tape) {
            this.tape = tape;
        }

        boolean read() {
            draft.clear();
            fault = 0;
            place = NONE;
            backTold = false;
            foesTold = false;
            drawTold = false;
            tape.rewind();
            // A line takes one byte of the text at least.
            for (int i = 0; i < MOST_BYTES && fault == 0 && tape.kind != Tape.END; i++) {
                if (tape.wordIs("craft")) {
                    readCraft();
                } else if (tape.wordIs("man")) {
                    readMan();
                } else if (tape.wordIs("demand")) {
                    readDemand();
                } else if (tape.wordIs("back") && !backTold) {
                    backTold = true;
                    tape.advance();
                    readLevel(OR_LEVEL, 0);
                } else if (tape.wordIs("foes") && !foesTold) {
                    foesTold = true;
                    draft.foes = numberBehind("foes", 100);
                    draft.raid = numberBehind("raid", 999);
                } else if (tape.wordIs("draw") && !drawTold) {
                    drawTold = true;
                    draft.draw = numberBehind("draw", 999);
                } else {
                    refuse(CANT_STAND);
                }
                expectSign(';');
            }
            draft.settle();
            return fault == 0;
        }

        /** What was read, against one that is not needed any more. */
        Town swap(Town old) {
            Town read = draft;
            draft = old;
            return read;
        }

        private void readCraft() {
            int craft = draft.crafts;
            if (craft < 0 || craft >= MOST_CRAFTS) {
                refuse(CANT_STAND);
                return;
            }
            tape.advance();
            craftNames[craft] = newName(craftNames, craft);
            draft.needs[craft] = numberBehind("needs", 7);
            draft.harm[craft] = numberBehind("loss", 99);
            draft.crafts++;
        }

        private void readMan() {
            int man = draft.men;
            if (man < 0 || man >= MOST_MEN) {
                refuse(CANT_STAND);
                return;
            }
            tape.advance();
            manNames[man] = newName(manNames, man);
            expectWord("of");
            int crafts = craftName(0);
            // One NAME more than there can be CRAFTS, so that it is refused for what it is.
            for (int i = 0; i < MOST_CRAFTS && fault == 0 && tape.isName(); i++) {
                crafts |= craftName(crafts);
            }
            draft.skills[man] = crafts;
            draft.loavesAtFirst[man] = numberBehind("loaves", 20);
            draft.debt[man] = numberBehind("debt", 99);
            draft.others[man] = tape.wordIs("others") ? numberBehind("others", 6) : 0;
            if (tape.wordIs("out")) {
                expectWord("out");
                draft.outAtFirst |= 1 << man;
            }
            draft.men++;
        }

        private void readDemand() {
            int demand = draft.demands;
            if (demand < 0 || demand >= MOST_DEMANDS) {
                refuse(CANT_STAND);
                return;
            }
            tape.advance();
            demandNames[demand] = newName(demandNames, demand);
            draft.cost[demand] = numberBehind("cost", 999);
            draft.worth[demand] = numberBehind("worth", 99);
            draft.demands++;
        }

        /** The CRAFT of the NAME that comes, as a bit, if it is none of these. */
        private int craftName(int told) {
            int craft = placeOf(tape.word, craftNames, draft.crafts);
            if (!tape.isName()) {
                refuse(CANT_STAND);
            } else if (craft == NONE) {
                refuse(NO_CRAFT);
            } else if ((told >> craft & 1) == 1) {
                refuse(TOLD_ALREADY);
            }
            if (fault != 0) {
                return 0;
            }
            tape.advance();
            return 1 << craft;
        }

        private long newName(long[] told, int count) {
            long name = tape.word;
            if (!tape.isName()) {
                refuse(CANT_STAND);
            } else if (placeOf(name, told, count) != NONE) {
                refuse(TOLD_ALREADY);
            }
            if (fault == 0) {
                tape.advance();
            }
            return name;
        }

        private static int placeOf(long name, long[] names, int count) {
            for (int i = 0; i < count && i < names.length; i++) {
                if (names[i] == name) {
                    return i;
                }
            }
            return NONE;
        }

        private int numberBehind(String word, int most) {
            expectWord(word);
            if (tape.kind != Tape.NUMBER) {
                refuse(CANT_STAND);
            } else if (tape.number > most) {
                refuse(CANT_BE);
            }
            if (fault != 0) {
                return 0;
            }
            int number = tape.number;
            tape.advance();
            return number;
        }

        private void expectWord(String word) {
            if (!tape.wordIs(word)) {
                refuse(CANT_STAND);
            } else if (fault == 0) {
                tape.advance();
            }
        }

        private void expectSign(char sign) {
            if (!tape.signIs(sign)) {
                refuse(CANT_STAND);
            } else if (fault == 0) {
                tape.advance();
            }
        }

        /** The first FAULT alone counts, and a TOKEN that is none is that before all else. */
        private void refuse(int what) {
            if (fault == 0) {
                fault = tape.kind == Tape.BAD ? NO_TOKEN : what;
                place = tape.start;
            }
        }

        /** What is joined by the ops of this level, or of one that binds more. */
        private void readLevel(int level, int within) {
            if (level >= UNIT_LEVEL) {
                readUnit(within);
                return;
            }
            if (level == RELATION_LEVEL && tape.wordIs("not")) {
                readNot(within);
                return;
            }
            readLevel(level + 1, within);
            int most = level == RELATION_LEVEL ? 1 : MOST_UNITS;
            for (int i = 0; i < most && fault == 0 && opHere(level) != 0; i++) {
                int op = opHere(level);
                tape.advance();
                readLevel(level + 1, within);
                draft.formula.add(op);
            }
        }

        private void readNot(int within) {
            if (within > MOST_WITHIN) {
                refuse(CANT_STAND);
                return;
            }
            tape.advance();
            readLevel(RELATION_LEVEL, within + 1);
            draft.formula.add(Formula.NOT);
        }

        /** The op of this level that comes, or 0. */
        private int opHere(int level) {
            switch (level) {
                case OR_LEVEL: return tape.wordIs("or") ? Formula.OR : 0;
                case AND_LEVEL: return tape.wordIs("and") ? Formula.AND : 0;
                case RELATION_LEVEL: return -tape.signOneOf("<>=");
                case SUM_LEVEL: return -tape.signOneOf("+-");
                case TERM_LEVEL: return -tape.signOneOf("*/%");
                default: return 0;
            }
        }

        private void readUnit(int within) {
            if (fault != 0) {
                return;
            }
            boolean opens = tape.signIs('(');
            int known = knownUnit();
            // 60 units in all can't be told: there is one e that no other holds, and it holds 30 at most.
            if (!opens && known == 0 && tape.kind != Tape.NUMBER
                || opens && within > MOST_WITHIN || draft.formula.units >= MOST_UNITS) {
                refuse(CANT_STAND);
                return;
            }
            draft.formula.units++;
            if (opens) {
                tape.advance();
                readLevel(OR_LEVEL, within + 1);
                expectSign(')');
            } else {
                draft.formula.add(known != 0 ? known : tape.number);
                tape.advance();
            }
        }

        /** What the word stands for in a formula, or 0. */
        private int knownUnit() {
            if (tape.wordIs("loaves")) {
                return Formula.LOAVES;
            } else if (tape.wordIs("debt")) {
                return Formula.DEBT;
            } else if (tape.wordIs("others")) {
                return Formula.OTHERS;
            } else if (tape.wordIs("gone")) {
                return Formula.GONE;
            } else if (tape.wordIs("days")) {
                return Formula.DAYS;
            } else if (tape.wordIs("short")) {
                return Formula.SHORT;
            }
            return 0;
        }
    }

    /** The ACTS that can be taken back or done again, as the states between them: a ring that forgets the oldest. */
    private static final class Acts {
        private final State[] ring = new State[MOST_ACTS + 1];
        private int oldest;
        int behind;
        int ahead;

        Acts() {
            for (int i = 0; i < ring.length; i++) {
                ring[i] = new State();
            }
        }

        void clear() {
            behind = 0;
            ahead = 0;
        }

        /** To be called ahead of each ACT. */
        void keep(State now) {
            here().copy(now);
            ahead = 0;
            if (behind < MOST_ACTS) {
                behind++;
            } else {
                oldest = Math.floorMod(oldest + 1, MOST_ACTS + 1);
            }
        }

        boolean takeBack(State now) {
            if (behind == 0) {
                return false;
            }
            here().copy(now);
            behind--;
            ahead++;
            now.copy(here());
            return true;
        }

        boolean doAgain(State now) {
            if (ahead == 0) {
                return false;
            }
            behind++;
            ahead--;
            now.copy(here());
            return true;
        }

        private State here() {
            return ring[Math.floorMod(oldest + behind, MOST_ACTS + 1)];
        }
    }

    /** The days ahead, from what is now; nothing is done by it. */
    private static final class Outlook {
        private final State ahead = new State();
        private final int[] out = new int[MOST_AHEAD + 1];
        private final int[] hungry = new int[MOST_AHEAD + 1];
        /** What masters lose from now till behind so many DAYS. */
        private final int[] lost = new int[MOST_AHEAD + 1];

        void look(Town town, State now, int n) {
            ahead.copy(now);
            int sum = 0;
            note(0, sum);
            for (int days = 1; days <= n && days <= MOST_AHEAD; days++) {
                sum += town.passDay(ahead);
                note(days, sum);
            }
        }

        private void note(int days, int sum) {
            if (days < 0 || days > MOST_AHEAD) {
                return;
            }
            out[days] = ahead.out;
            lost[days] = sum;
            hungry[days] = 0;
            for (int man = 0; man < MOST_MEN; man++) {
                if (ahead.isOut(man) && ahead.loaves[man] == 0) {
                    hungry[days] |= 1 << man;
                }
            }
        }

        int outBehind(int n) {
            return n >= 0 && n <= MOST_AHEAD ? out[n] : 0;
        }

        int hungryBehind(int n) {
            return n >= 0 && n <= MOST_AHEAD ? hungry[n] : 0;
        }

        int lostBetween(int from, int to) {
            if (from < 0 || to < from || to > MOST_AHEAD) {
                return 0;
            }
            return lost[to] - lost[from];
        }

        /** Behind how many DAYS nobody is OUT any more, as far as was looked. */
        int emptyBehind() {
            for (int n = 0; n <= MOST_AHEAD; n++) {
                if (out[n] == 0) {
                    return n;
                }
            }
            return NONE;
        }

        /** What masters lose behind n DAYS till nobody is OUT any more, as far as was looked. */
        int lostFrom(int n) {
            int last = emptyBehind();
            return lostBetween(n, last == NONE ? MOST_AHEAD : last);
        }
    }

    /** The best set so far: of most worth, then of least cost, then the one that came first. */
    private static final class Pick {
        boolean found;
        int worth;
        int cost;
        int set;

        void clear() {
            found = false;
            worth = 0;
            cost = 0;
            set = 0;
        }

        boolean wants(int newWorth, int newCost) {
            return !found || newWorth > worth || newWorth == worth && newCost < cost;
        }

        void take(int newSet, int newWorth, int newCost) {
            if (wants(newWorth, newCost)) {
                found = true;
                worth = newWorth;
                cost = newCost;
                set = newSet;
            }
        }
    }

    /** What is SEEN of a day long ago, and the sets of MEN who can have been OUT then. */
    private static final class Sights {
        static final int MAN_OUT = 0;
        static final int CRAFT_SHORT = 1;
        static final int AT_LEAST_OUT = 2;

        private final int[] kind = new int[MOST_SEEN];
        private final int[] which = new int[MOST_SEEN];
        private final boolean[] was = new boolean[MOST_SEEN];
        private final int[] toldAt = new int[MOST_SEEN];
        private final int[] untoldAt = new int[MOST_SEEN];
        int count;
        int time;
        int fit;
        /** Of those that FIT: in how many each MAN is OUT. */
        final int[] fitOut = new int[MOST_MEN];

        void clear() {
            count = 0;
        }

        int tell(int newKind, int newWhich, boolean is) {
            if (count < 0 || count >= MOST_SEEN) {
                return NONE;
            }
            kind[count] = newKind;
            which[count] = newWhich;
            was[count] = is;
            toldAt[count] = time;
            untoldAt[count] = NONE;
            count++;
            return count - 1;
        }

        boolean takeBack(int sight) {
            if (sight < 0 || sight >= count || sight >= MOST_SEEN || untoldAt[sight] != NONE) {
                return false;
            }
            untoldAt[sight] = time;
            return true;
        }

        void countFits(Town town, int k) {
            fit = 0;
            for (int man = 0; man < MOST_MEN; man++) {
                fitOut[man] = 0;
            }
            for (int out = 0; out <= town.everyone() && out < SETS_OF_MEN; out++) {
                if (canHaveBeen(town, out, k)) {
                    fit++;
                    for (int man = 0; man < MOST_MEN; man++) {
                        fitOut[man] += out >> man & 1;
                    }
                }
            }
        }

        private boolean canHaveBeen(Town town, int out, int k) {
            for (int sight = 0; sight < count && sight < MOST_SEEN; sight++) {
                boolean untold = untoldAt[sight] != NONE && untoldAt[sight] <= k;
                if (toldAt[sight] <= k && !untold && holds(town, sight, out) != was[sight]) {
                    return false;
                }
            }
            return true;
        }

        private boolean holds(Town town, int sight, int out) {
            if (sight < 0 || sight >= MOST_SEEN) {
                return false;
            }
            switch (kind[sight]) {
                case MAN_OUT: return (out >> which[sight] & 1) == 1;
                case CRAFT_SHORT: return (town.shortBy(out) >> which[sight] & 1) == 1;
                default: return Integer.bitCount(out) >= which[sight];
            }
        }
    }
}
