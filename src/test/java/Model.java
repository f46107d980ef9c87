import java.math.BigInteger;
import java.util.ArrayList;
import java.util.Arrays;
import java.util.Comparator;
import java.util.HashMap;
import java.util.List;
import java.util.Map;
import java.util.function.ToIntFunction;

/** The document once more, written slowly and apart from the class, with the Java library: to compare answers with. */
final class Model {
    /** What a formula is told of a MAN. */
    record Known(int loaves, int debt, int others, int gone, int days, int shorts) { }

    record Craft(String name, int needs, int loss) { }

    record Man(String name, List<Integer> crafts, int loaves, int debt, int others, boolean out) { }

    record Demand(String name, int cost, int worth) { }

    static final class Told {
        final List<Craft> crafts = new ArrayList<>();
        final List<Man> men = new ArrayList<>();
        final List<Demand> demands = new ArrayList<>();
        ToIntFunction<Known> back;
        int units;
        int foes;
        int raid;
        int draw;
        final List<String> once = new ArrayList<>();
    }

    static final class Now implements Cloneable {
        boolean[] out;
        int[] days;
        int[] loaves;
        boolean[] granted;
        int lost;
        int foes;
        int day;
        int seed;

        Now copy() {
            Now copy = new Now();
            copy.out = out.clone();
            copy.days = days.clone();
            copy.loaves = loaves.clone();
            copy.granted = granted.clone();
            copy.lost = lost;
            copy.foes = foes;
            copy.day = day;
            copy.seed = seed;
            return copy;
        }
    }

    record Seen(char sort, int which, boolean is, int told, int[] untold) { }

    final StringBuilder tape = new StringBuilder();
    Told told = new Told();
    Now now = first(told);
    final List<Now> undos = new ArrayList<>();
    final List<Now> redos = new ArrayList<>();
    final Map<Integer, Now> boxes = new HashMap<>();
    final List<Seen> sights = new ArrayList<>();
    int time;
    int fault;
    int place = -1;

    static Now first(Told told) {
        Now now = new Now();
        int men = told.men.size();
        now.out = new boolean[men];
        now.days = new int[men];
        now.loaves = new int[men];
        now.granted = new boolean[told.demands.size()];
        for (int i = 0; i < men; i++) {
            now.out[i] = told.men.get(i).out();
            now.loaves[i] = told.men.get(i).loaves();
        }
        now.seed = told.draw;
        return now;
    }

    // ---- sets

    static int bits(boolean[] set) {
        int bits = 0;
        for (int i = set.length - 1; i >= 0; i--) {
            bits = bits * 2 + (set[i] ? 1 : 0);
        }
        return bits;
    }

    static boolean[] set(int bits, int size) {
        boolean[] set = new boolean[size];
        for (int i = 0; i < size; i++) {
            set[i] = bits / (1 << i) % 2 == 1;
        }
        return set;
    }

    static int size(boolean[] set) {
        int size = 0;
        for (boolean one : set) {
            size += one ? 1 : 0;
        }
        return size;
    }

    /** All sets, the least as bits first. */
    static List<boolean[]> sets(int size) {
        List<boolean[]> sets = new ArrayList<>();
        for (int bits = 0; bits < 1 << size; bits++) {
            sets.add(set(bits, size));
        }
        return sets;
    }

    static boolean apart(boolean[] a, boolean[] b) {
        for (int i = 0; i < a.length; i++) {
            if (a[i] && b[i]) {
                return false;
            }
        }
        return true;
    }

    static boolean within(boolean[] a, boolean[] b) {
        for (int i = 0; i < a.length; i++) {
            if (a[i] && !b[i]) {
                return false;
            }
        }
        return true;
    }

    static boolean[] both(boolean[] a, boolean[] b) {
        boolean[] both = a.clone();
        for (int i = 0; i < b.length; i++) {
            both[i] |= b[i];
        }
        return both;
    }

    int men() {
        return told.men.size();
    }

    boolean isSet(int bits, int size) {
        return bits >= 0 && bits < 1 << size;
    }

    boolean isMan(int man) {
        return man >= 0 && man < men();
    }

    // ---- what is told, by who is OUT

    int hands(int craft, boolean[] out) {
        int hands = 0;
        for (int i = 0; i < men(); i++) {
            if (!out[i] && told.men.get(i).crafts().contains(craft)) {
                hands++;
            }
        }
        return hands;
    }

    boolean isShort(int craft, boolean[] out) {
        return hands(craft, out) < told.crafts.get(craft).needs();
    }

    boolean[] shorts(boolean[] out) {
        boolean[] shorts = new boolean[told.crafts.size()];
        for (int i = 0; i < shorts.length; i++) {
            shorts[i] = isShort(i, out);
        }
        return shorts;
    }

    int loss(boolean[] out) {
        int loss = 0;
        for (int i = 0; i < told.crafts.size(); i++) {
            loss += isShort(i, out) ? told.crafts.get(i).loss() : 0;
        }
        return loss;
    }

    boolean[] all() {
        boolean[] all = new boolean[men()];
        Arrays.fill(all, true);
        return all;
    }

    boolean[] followed(boolean[] out) {
        boolean[] then = out.clone();
        int count = size(out);
        for (int i = 0; i < men(); i++) {
            int others = told.men.get(i).others();
            if (others >= 1 && count >= others) {
                then[i] = true;
            }
        }
        return then;
    }

    boolean[] spread(boolean[] out) {
        boolean[] next = followed(out);
        return Arrays.equals(next, out) ? out : spread(next);
    }

    boolean goesBack(Now now, int man) {
        int gone = size(now.out) - 1;
        Man is = told.men.get(man);
        if (told.back == null) {
            return now.loaves[man] == 0 || gone < is.others();
        }
        return told.back.applyAsInt(new Known(now.loaves[man], is.debt(), is.others(), gone, now.days[man],
            size(shorts(now.out)))) != 0;
    }

    int day(Now now) {
        boolean[] then = followed(now.out);
        for (int i = 0; i < men(); i++) {
            if (then[i] && !now.out[i]) {
                now.days[i] = 0;
            }
        }
        now.out = then;
        for (int i = 0; i < men(); i++) {
            if (now.out[i] && now.loaves[i] > 0) {
                now.loaves[i]--;
            }
        }
        int lost = loss(now.out);
        now.seed = (137 * now.seed + 71) % 1000;
        if (now.seed % 100 < told.foes * size(shorts(now.out))) {
            now.foes++;
            lost += told.raid;
        }
        now.lost += lost;
        for (int i = 0; i < men(); i++) {
            now.days[i] += now.out[i] ? 1 : 0;
        }
        boolean[] stay = now.out.clone();
        for (int i = 0; i < men(); i++) {
            stay[i] = now.out[i] && !goesBack(now, i);
        }
        for (int i = 0; i < men(); i++) {
            now.days[i] = stay[i] ? now.days[i] : 0;
        }
        now.out = stay;
        now.day++;
        return lost;
    }

    Now behind(int n) {
        Now then = now.copy();
        for (int i = 0; i < n; i++) {
            day(then);
        }
        return then;
    }

    // ---- the best of many

    record Choice(int worth, int cost, int set) { }

    static Choice best(List<Choice> choices) {
        return choices.stream().min(Comparator.comparing((Choice c) -> -c.worth()).thenComparing(Choice::cost)
            .thenComparing(Choice::set)).orElse(null);
    }

    List<boolean[]> leaving() {
        List<boolean[]> leaving = new ArrayList<>();
        for (boolean[] set : sets(men())) {
            if (apart(set, now.out)) {
                leaving.add(set);
            }
        }
        return leaving;
    }

    static int part(Choice choice, int what) {
        return choice == null ? -1 : what == 0 ? choice.cost() : what == 1 ? choice.set() : -1;
    }

    static int fraction(BigInteger upper, BigInteger lower, int part) {
        BigInteger common = upper.gcd(lower);
        return (part == 0 ? upper : lower).divide(common).intValueExact();
    }

    // ---- the face

    int feed(int a, int b, int c, int d, int e) {
        if (tape.length() > 1580) {
            return -1;
        }
        for (int four : new int[] {a, b, c, d, e}) {
            for (int shift = 3; shift >= 0; shift--) {
                tape.append((char) (four >> 8 * shift & 0xff));
            }
        }
        return tape.length();
    }

    int end(int n) {
        if (n < 0 || n > tape.length()) {
            return -1;
        }
        tape.setLength(n);
        return n;
    }

    int city() {
        ModelReader reader = new ModelReader(tape.toString());
        tape.setLength(0);
        Told read = reader.read();
        fault = reader.fault;
        place = reader.place;
        if (read == null) {
            return -1;
        }
        told = read;
        now = first(told);
        undos.clear();
        redos.clear();
        boxes.clear();
        sights.clear();
        return men();
    }

    int fault(int what) {
        return what == 0 ? fault : what == 1 ? place : -1;
    }

    int man(int man, int what) {
        if (!isMan(man) || what < 0 || what > 6) {
            return -1;
        }
        Man is = told.men.get(man);
        int crafts = 0;
        for (int craft : is.crafts()) {
            crafts += 1 << craft;
        }
        int[] answers = {now.out[man] ? 1 : 0, now.loaves[man], now.out[man] ? now.days[man] : 0, is.debt(), is.others(),
            crafts, now.out[man] && goesBack(now, man) ? 1 : 0};
        return answers[what];
    }

    int craft(int craft, int what) {
        if (craft < 0 || craft >= told.crafts.size() || what < 0 || what > 4) {
            return -1;
        }
        Craft is = told.crafts.get(craft);
        boolean[] members = new boolean[men()];
        for (int i = 0; i < men(); i++) {
            members[i] = told.men.get(i).crafts().contains(craft);
        }
        return new int[] {is.needs(), hands(craft, now.out), isShort(craft, now.out) ? 1 : 0, is.loss(), bits(members)}[what];
    }

    boolean kept(int demand) {
        return now.granted[demand] && told.demands.get(demand).cost() <= loss(all());
    }

    int demand(int demand, int what) {
        if (demand < 0 || demand >= told.demands.size() || what < 0 || what > 3) {
            return -1;
        }
        Demand is = told.demands.get(demand);
        return new int[] {is.cost(), is.worth(), now.granted[demand] ? 1 : 0, kept(demand) ? 1 : 0}[what];
    }

    int out() {
        return bits(now.out);
    }

    int loss(int what) {
        return what == 0 ? loss(now.out) : what == 1 ? loss(all()) : -1;
    }

    int broken() {
        boolean[] broken = now.granted.clone();
        for (int i = 0; i < broken.length; i++) {
            broken[i] = now.granted[i] && !kept(i);
        }
        return bits(broken);
    }

    int longest() {
        int longest = -1;
        for (int i = men() - 1; i >= 0; i--) {
            if (now.out[i] && (longest < 0 || now.days[i] >= now.days[longest])) {
                longest = i;
            }
        }
        return longest;
    }

    int hands(int craft, int n) {
        return craft < 0 || craft >= told.crafts.size() || n < 0 || n > 60 ? -1 : hands(craft, behind(n).out);
    }

    void act() {
        undos.add(now.copy());
        redos.clear();
        if (undos.size() > 40) {
            undos.remove(0);
        }
    }

    int leave(int man) {
        if (!isMan(man) || now.out[man]) {
            return -1;
        }
        act();
        now.out[man] = true;
        now.days[man] = 0;
        return size(now.out);
    }

    int home(int man) {
        if (!isMan(man) || !now.out[man]) {
            return -1;
        }
        act();
        int days = now.days[man];
        now.out[man] = false;
        now.days[man] = 0;
        return days;
    }

    int give(int man, int loaves) {
        if (!isMan(man) || loaves < 1 || loaves > 99) {
            return -1;
        }
        act();
        now.loaves[man] = Math.min(99, now.loaves[man] + loaves);
        return now.loaves[man];
    }

    int grant(int demand) {
        if (demand < 0 || demand >= told.demands.size() || now.granted[demand]) {
            return -1;
        }
        act();
        now.granted[demand] = true;
        now.lost += told.demands.get(demand).cost();
        return now.lost;
    }

    int day() {
        if (now.day >= 999) {
            return -1;
        }
        act();
        return day(now);
    }

    boolean undo() {
        if (undos.isEmpty()) {
            return false;
        }
        redos.add(now);
        now = undos.remove(undos.size() - 1);
        return true;
    }

    boolean redo() {
        if (redos.isEmpty()) {
            return false;
        }
        undos.add(now);
        now = redos.remove(redos.size() - 1);
        return true;
    }

    int spread(int set) {
        return isSet(set, men()) ? bits(spread(both(now.out, set(set, men())))) : -1;
    }

    int spark(int what) {
        List<Choice> choices = new ArrayList<>();
        for (boolean[] set : leaving()) {
            if (size(spread(both(now.out, set))) == men()) {
                choices.add(new Choice(0, size(set), bits(set)));
            }
        }
        return part(best(choices), what);
    }

    int stop(int crafts, int what) {
        if (!isSet(crafts, told.crafts.size())) {
            return -1;
        }
        List<Choice> choices = new ArrayList<>();
        for (boolean[] set : leaving()) {
            if (within(set(crafts, told.crafts.size()), shorts(both(now.out, set)))) {
                choices.add(new Choice(0, size(set), bits(set)));
            }
        }
        return part(best(choices), what);
    }

    boolean[] with(int man, boolean out) {
        boolean[] then = now.out.clone();
        then[man] = out;
        return then;
    }

    int pillars() {
        boolean[] pillars = new boolean[men()];
        for (int i = 0; i < men(); i++) {
            pillars[i] = now.out[i] && !within(shorts(now.out), shorts(with(i, false)));
        }
        return bits(pillars);
    }

    int idle() {
        boolean[] idle = new boolean[men()];
        for (int i = 0; i < men(); i++) {
            idle[i] = !now.out[i] && within(shorts(with(i, true)), shorts(now.out));
        }
        return bits(idle);
    }

    int dearest() {
        List<Choice> choices = new ArrayList<>();
        for (int i = 0; i < men(); i++) {
            if (!now.out[i]) {
                choices.add(new Choice(loss(with(i, true)), 0, i));
            }
        }
        return choices.isEmpty() ? -1 : best(choices).set();
    }

    int twins() {
        int twins = 0;
        for (int i = 0; i < men(); i++) {
            for (int j = i + 1; j < men(); j++) {
                List<Integer> a = told.men.get(i).crafts();
                List<Integer> b = told.men.get(j).crafts();
                twins += a.containsAll(b) && b.containsAll(a) ? 1 : 0;
            }
        }
        return twins;
    }

    int stock() {
        int loaves = 0;
        for (int i = 0; i < men(); i++) {
            loaves += now.out[i] ? now.loaves[i] : 0;
        }
        return size(now.out) == 0 ? -1 : loaves / size(now.out);
    }

    int hungry(int n) {
        if (n < 0 || n > 60) {
            return -1;
        }
        Now then = behind(n);
        boolean[] hungry = new boolean[men()];
        for (int i = 0; i < men(); i++) {
            hungry[i] = then.out[i] && then.loaves[i] == 0;
        }
        return bits(hungry);
    }

    int returns(int man) {
        if (!isMan(man) || !now.out[man]) {
            return -1;
        }
        for (int n = 1; n <= 60; n++) {
            if (!behind(n).out[man]) {
                return n;
            }
        }
        return -1;
    }

    int plan(int n, int what) {
        if (n < 1 || n > 60 || what < 0 || what > 1) {
            return -1;
        }
        List<Choice> choices = new ArrayList<>();
        for (boolean[] set : leaving()) {
            if (size(set) <= 3) {
                Now then = now.copy();
                then.out = both(then.out, set);
                int lost = 0;
                for (int i = 0; i < n; i++) {
                    lost += day(then);
                }
                choices.add(new Choice(lost, size(set), bits(set)));
            }
        }
        Choice best = best(choices);
        return what == 0 ? best.worth() : best.set();
    }

    int bribe(int n, int what) {
        if (n < 1 || n > 60) {
            return -1;
        }
        List<Choice> choices = new ArrayList<>();
        for (boolean[] set : sets(men())) {
            if (within(set, now.out)) {
                Now then = now.copy();
                for (int i = 0; i < men(); i++) {
                    if (set[i]) {
                        then.out[i] = false;
                        then.days[i] = 0;
                    }
                }
                for (int i = 0; i < n; i++) {
                    day(then);
                }
                if (size(then.out) == 0) {
                    choices.add(new Choice(0, size(set), bits(set)));
                }
            }
        }
        return part(best(choices), what);
    }

    int ever(int n) {
        if (n < 1 || n > 60) {
            return -1;
        }
        boolean[] ever = now.out;
        for (int i = 1; i <= n; i++) {
            ever = both(ever, behind(i).out);
        }
        return bits(ever);
    }

    int press(int most, int what) {
        if (most < 0 || most > 7 || what < 0 || what > 1) {
            return -1;
        }
        List<Choice> choices = new ArrayList<>();
        for (boolean[] set : leaving()) {
            if (size(set) <= most) {
                choices.add(new Choice(loss(both(now.out, set)), size(set), bits(set)));
            }
        }
        Choice best = best(choices);
        return what == 0 ? best.worth() : best.set();
    }

    int pays(int demand) {
        if (demand < 0 || demand >= told.demands.size()) {
            return -1;
        }
        int cost = told.demands.get(demand).cost();
        int days = 0;
        while (days * loss(all()) < cost) {
            days++;
            if (days > 999) {
                return -1;
            }
        }
        return days;
    }

    private long sumOverOrders(int man, boolean[] out, int left) {
        if (left == 0) {
            return 0;
        }
        long sum = 0;
        for (int i = 0; i < men(); i++) {
            if (!out[i]) {
                boolean[] then = out.clone();
                then[i] = true;
                sum += i == man ? orders(left - 1) * (loss(then) - loss(out)) : sumOverOrders(man, then, left - 1);
            }
        }
        return sum;
    }

    private static long orders(int n) {
        return n <= 1 ? 1 : n * orders(n - 1);
    }

    int weight(int man, int part) {
        if (!isMan(man) || part < 0 || part > 1) {
            return -1;
        }
        long sum = sumOverOrders(man, new boolean[men()], men());
        return fraction(BigInteger.valueOf(sum), BigInteger.valueOf(orders(men())), part);
    }

    int will(int n) {
        return n < 0 || n > 60 ? -1 : bits(behind(n).out);
    }

    int lasts() {
        for (int n = 0; n <= 60; n++) {
            if (size(behind(n).out) == 0) {
                return n;
            }
        }
        return -1;
    }

    int costs(int n) {
        return n < 0 || n > 60 ? -1 : behind(n).lost - now.lost;
    }

    int weakest() {
        int weakest = -1;
        for (int i = men() - 1; i >= 0; i--) {
            if (returns(i) != -1 && (weakest == -1 || returns(i) <= returns(weakest))) {
                weakest = i;
            }
        }
        return weakest;
    }

    Choice offer(int n) {
        Now then = behind(n);
        int budget = 0;
        for (int i = n; i < 60 && size(then.out) > 0; i++) {
            budget += day(then);
        }
        List<Choice> choices = new ArrayList<>();
        for (boolean[] set : sets(told.demands.size())) {
            int cost = 0;
            int worth = 0;
            for (int i = 0; i < set.length; i++) {
                cost += set[i] ? told.demands.get(i).cost() : 0;
                worth += set[i] ? told.demands.get(i).worth() : 0;
            }
            if (apart(set, now.granted) && cost <= budget) {
                choices.add(new Choice(worth, cost, bits(set)));
            }
        }
        return best(choices);
    }

    int offer(int n, int what) {
        if (n < 0 || n > 59 || what < 0 || what > 2) {
            return -1;
        }
        Choice offer = offer(n);
        return what == 0 ? offer.worth() : what == 1 ? offer.cost() : offer.set();
    }

    int until(int worth) {
        int last = -1;
        for (int n = 0; n < 60; n++) {
            if (offer(n).worth() >= worth) {
                last = n;
            }
        }
        return last;
    }

    int feeds(int man, int n) {
        if (!isMan(man) || !now.out[man] || n < 1 || n > 60) {
            return -1;
        }
        for (int loaves = 0; loaves <= 99; loaves++) {
            Now then = now.copy();
            then.loaves[man] = Math.min(99, then.loaves[man] + loaves);
            boolean stays = true;
            for (int i = 0; i < n && stays; i++) {
                day(then);
                stays = then.out[man];
            }
            if (stays) {
                return loaves;
            }
        }
        return -1;
    }

    int odds(int n, int part) {
        if (n < 0 || n > 4 || part < 0 || part > 1) {
            return -1;
        }
        BigInteger upper = BigInteger.ONE;
        BigInteger lower = BigInteger.ONE;
        for (int i = 0; i < n; i++) {
            int odds = told.foes * size(shorts(followed(behind(i).out)));
            upper = upper.multiply(BigInteger.valueOf(odds > 100 ? 0 : 100 - odds));
            lower = lower.multiply(BigInteger.valueOf(100));
        }
        return fraction(upper, lower, part);
    }

    int tell(char sort, int which, boolean is, int limit) {
        if (which < 0 || which >= limit || sights.size() == 30) {
            return -1;
        }
        sights.add(new Seen(sort, which, is, time, new int[] {Integer.MAX_VALUE, 0}));
        return sights.size() - 1;
    }

    int seen(int man, boolean is) {
        return tell('m', man, is, men());
    }

    int lacked(int craft, boolean is) {
        return tell('c', craft, is, told.crafts.size());
    }

    int counted(int least, boolean is) {
        return tell('n', least, is, 8);
    }

    boolean untell(int seen) {
        if (seen < 0 || seen >= sights.size() || sights.get(seen).untold()[1] == 1) {
            return false;
        }
        sights.get(seen).untold()[0] = time;
        sights.get(seen).untold()[1] = 1;
        return true;
    }

    int later(int by) {
        if (by < 0 || by > 1000 || time + by > 100000) {
            return -1;
        }
        time += by;
        return time;
    }

    boolean fits(boolean[] out, int k) {
        for (Seen seen : sights) {
            boolean counts = seen.told() <= k && (seen.untold()[1] == 0 || seen.untold()[0] > k);
            boolean was = switch (seen.sort()) {
                case 'm' -> out[seen.which()];
                case 'c' -> isShort(seen.which(), out);
                default -> size(out) >= seen.which();
            };
            if (counts && was != seen.is()) {
                return false;
            }
        }
        return true;
    }

    List<boolean[]> fitting(int k) {
        List<boolean[]> fitting = new ArrayList<>();
        for (boolean[] set : sets(men())) {
            if (fits(set, k)) {
                fitting.add(set);
            }
        }
        return fitting;
    }

    int fits(int k) {
        return fitting(k).size();
    }

    long outIn(int man, int k) {
        return fitting(k).stream().filter(set -> set[man]).count();
    }

    int sure(int man, int k) {
        if (!isMan(man) || fits(k) == 0) {
            return -1;
        }
        return outIn(man, k) == 0 ? 0 : outIn(man, k) == fits(k) ? 1 : -2;
    }

    int ask(int what, int k) {
        if (what < 0 || what > 1 || fits(k) == 0 || men() == 0) {
            return -1;
        }
        List<Choice> choices = new ArrayList<>();
        for (int i = 0; i < men(); i++) {
            int out = (int) outIn(i, k);
            choices.add(new Choice(0, Math.max(out, fits(k) - out), i));
        }
        return what == 0 ? best(choices).set() : best(choices).cost();
    }

    int image(int box) {
        if (box < 0 || box > 2) {
            return -1;
        }
        boxes.put(box, now.copy());
        return now.day;
    }

    int back(int box) {
        if (!boxes.containsKey(box)) {
            return -1;
        }
        now = boxes.get(box).copy();
        undos.clear();
        redos.clear();
        return now.day;
    }

    int about(int what) {
        int[] answers = {men(), told.crafts.size(), told.demands.size(), now.day, now.seed, now.lost, now.foes,
            bits(shorts(now.out)), undos.size(), redos.size(), sights.size(), time, tape.length(), told.units};
        return what >= 0 && what < answers.length ? answers[what] : -1;
    }
}
