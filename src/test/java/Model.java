import java.util.ArrayDeque;
import java.util.ArrayList;
import java.util.Deque;
import java.util.List;
import java.util.Map;
import java.util.TreeMap;

/**
 * The document told a second time, for RandomRunsTest: objects, maps and sorting in place of rows,
 * and a history of deep copies. It shares no code with the class.
 */
final class Model {
    static final class Person {
        long shares, milk, account;
    }

    static final class Deal {
        int seller, buyer, stage;
        long left, price, days;
        long[] sold = new long[4];
        Map<Integer, Long> claims = new TreeMap<>();
    }

    static final class Ballot {
        int kind, state;
        long value;
        Map<Integer, Boolean> cast = new TreeMap<>();
    }

    static final class World {
        List<Person> people = new ArrayList<>();
        List<Deal> deals = new ArrayList<>();
        List<Ballot> ballots = new ArrayList<>();
        List<Long> surpluses = new ArrayList<>();
        long liters = 1000, limit = 50, treasury = 0, cap = 25, par = 100, price = 100, length = 3;
        long assets = 0, debts = 0, quorum = 50, day = 0;
        int rule = 0;
    }

    private World w = new World();
    private final Deque<World> history = new ArrayDeque<>();

    private static World copy(World a) {
        World b = new World();
        for (Person p : a.people) {
            Person q = new Person();
            q.shares = p.shares;
            q.milk = p.milk;
            q.account = p.account;
            b.people.add(q);
        }
        for (Deal d : a.deals) {
            Deal e = new Deal();
            e.seller = d.seller;
            e.buyer = d.buyer;
            e.stage = d.stage;
            e.left = d.left;
            e.price = d.price;
            e.days = d.days;
            e.sold = d.sold.clone();
            e.claims = new TreeMap<>(d.claims);
            b.deals.add(e);
        }
        for (Ballot x : a.ballots) {
            Ballot y = new Ballot();
            y.kind = x.kind;
            y.state = x.state;
            y.value = x.value;
            y.cast = new TreeMap<>(x.cast);
            b.ballots.add(y);
        }
        b.surpluses = new ArrayList<>(a.surpluses);
        b.liters = a.liters;
        b.limit = a.limit;
        b.treasury = a.treasury;
        b.cap = a.cap;
        b.par = a.par;
        b.price = a.price;
        b.length = a.length;
        b.assets = a.assets;
        b.debts = a.debts;
        b.quorum = a.quorum;
        b.day = a.day;
        b.rule = a.rule;
        return b;
    }

    private void action() {
        history.addLast(copy(w));
        if (history.size() == 5) {
            history.removeFirst();
        }
    }

    private boolean noMember(int m) {
        return m < 0 || m >= w.people.size();
    }

    private boolean noDeal(int o) {
        return o < 0 || o >= w.deals.size();
    }

    private boolean noBallot(int o) {
        return o < 0 || o >= w.ballots.size();
    }

    private static boolean out(long n, long a, long b) {
        return n < a || n > b;
    }

    /** Floors by stepping, so as not to use the function that the class uses. */
    private static long floor(long a, long b) {
        long q = a / b;
        return q * b > a ? q - 1 : q;
    }

    long all() {
        return w.treasury + w.people.stream().mapToLong(p -> p.shares).sum();
    }

    private long need(int m) {
        long milk = w.people.get(m).milk;
        return milk / w.liters + (milk % w.liters == 0 ? 0 : 1);
    }

    private long free(int m) {
        long offered = w.deals.stream().filter(d -> d.stage != 3 && d.seller == m).mapToLong(d -> d.left).sum();
        return Math.max(0, w.people.get(m).shares - need(m) - offered);
    }

    private long space(int m) {
        return Math.max(0, all() * w.cap / 100 - w.people.get(m).shares);
    }

    private long power(int m) {
        Person p = w.people.get(m);
        if (p.shares == 0) {
            return 0;
        }
        if (w.rule == 0) {
            return 1;
        }
        if (w.rule == 1) {
            return p.shares;
        }
        return w.rule == 2 ? p.milk / 1000 + 1 : (long) Math.floor(Math.sqrt((double) p.shares));
    }

    long join() {
        if (w.people.size() == 12) {
            return Check.FULL;
        }
        action();
        w.people.add(new Person());
        return w.people.size() - 1;
    }

    long issue(int m, int count) {
        if (noMember(m) || out(count, 1, 1000)) {
            return Check.INVALID;
        }
        if (all() + count > 10000) {
            return Check.FULL;
        }
        action();
        w.people.get(m).shares += count;
        w.people.get(m).account -= w.price * count;
        return all();
    }

    long setMilk(int m, int liters) {
        if (noMember(m) || out(liters, 0, 1000000)) {
            return Check.INVALID;
        }
        action();
        long before = w.people.get(m).milk;
        w.people.get(m).milk = liters;
        return before;
    }

    long setLitersPerShare(int liters) {
        if (out(liters, 100, 10000)) {
            return Check.INVALID;
        }
        action();
        long before = w.liters;
        w.liters = liters;
        return before;
    }

    long setTreasuryLimit(int limit) {
        if (out(limit, 0, 1000)) {
            return Check.INVALID;
        }
        action();
        long before = w.limit;
        w.limit = limit;
        return before;
    }

    /** What is asked of a member: 0 shares, 1 account, 2 requirement, 3 free shares, 4 room, 5 votes. */
    long member(int what, int m) {
        if (noMember(m)) {
            return Check.INVALID;
        }
        switch (what) {
            case 0: return w.people.get(m).shares;
            case 1: return w.people.get(m).account;
            case 2: return need(m);
            case 3: return free(m);
            case 4: return space(m);
            default: return power(m);
        }
    }

    /** 0 members, 1 all shares, 2 treasury, 3 price, 4 par value, 5 offers, 6 day, 7 history. */
    long whole(int what) {
        switch (what) {
            case 0: return w.people.size();
            case 1: return all();
            case 2: return w.treasury;
            case 3: return w.price;
            case 4: return w.par;
            case 5: return w.deals.size();
            case 6: return w.day;
            default: return history.size();
        }
    }

    long setBooks(int assets, int debts) {
        if (out(assets, 0, 100000000) || out(debts, 0, 100000000)) {
            return Check.INVALID;
        }
        action();
        long before = w.assets - w.debts;
        w.assets = assets;
        w.debts = debts;
        return before;
    }

    long addSurplus(int amount) {
        if (out(amount, -1000000, 1000000)) {
            return Check.INVALID;
        }
        action();
        w.surpluses.add((long) amount);
        while (w.surpluses.size() > 3) {
            w.surpluses.remove(0);
        }
        return w.surpluses.size();
    }

    long valuate() {
        if (all() == 0) {
            return Check.ILLEGAL;
        }
        action();
        long b = floor(w.assets - w.debts, all());
        long sum = w.surpluses.stream().mapToLong(Long::longValue).sum();
        long m = w.surpluses.isEmpty() ? 0 : floor(sum, w.surpluses.size());
        long e = floor(10 * m, all());
        w.price = Math.max(floor(3 * b + 2 * e, 5), w.par);
        return w.price;
    }

    long offer(int seller, int buyer, int count, int offered) {
        if (noMember(seller) || noMember(buyer) || seller == buyer || out(count, 1, 1000) || out(offered, 1, 100000)) {
            return Check.INVALID;
        }
        if (count > free(seller) || offered < w.par) {
            return Check.ILLEGAL;
        }
        if (w.deals.size() == 20) {
            return Check.FULL;
        }
        action();
        Deal d = new Deal();
        d.seller = seller;
        d.buyer = buyer;
        d.left = count;
        d.price = offered;
        d.days = w.length;
        w.deals.add(d);
        return w.deals.size() - 1;
    }

    long claim(int o, int m, int count) {
        if (noDeal(o) || noMember(m) || out(count, 1, 1000)) {
            return Check.INVALID;
        }
        Deal d = w.deals.get(o);
        if (d.stage > 1 || d.seller == m || d.stage == 0 && w.people.get(m).shares >= need(m)) {
            return Check.ILLEGAL;
        }
        action();
        d.claims.put(m, (long) count);
        return d.claims.values().stream().mapToLong(Long::longValue).sum();
    }

    long withdraw(int o) {
        if (noDeal(o)) {
            return Check.INVALID;
        }
        Deal d = w.deals.get(o);
        if (d.stage == 3) {
            return Check.ILLEGAL;
        }
        action();
        d.stage = 3;
        d.claims.clear();
        return d.left;
    }

    long passDays(int days) {
        if (out(days, 1, 60)) {
            return Check.INVALID;
        }
        action();
        long open = w.deals.stream().filter(d -> d.stage != 3).count();
        for (int i = 0; i < days; i++) {
            w.day++;
            for (Deal d : w.deals) {
                if (d.stage != 3 && --d.days == 0) {
                    endOf(d);
                }
            }
        }
        return open - w.deals.stream().filter(d -> d.stage != 3).count();
    }

    private void endOf(Deal d) {
        if (d.stage == 2) {
            long taken = Math.min(d.left, Math.max(0, w.limit - w.treasury));
            w.treasury += taken;
            pay(d, 2, taken, w.price);
            long bought = Math.min(d.left, space(d.buyer));
            w.people.get(d.buyer).shares += bought;
            w.people.get(d.buyer).account -= bought * d.price;
            pay(d, 3, bought, d.price);
            d.stage = 3;
        } else {
            Map<Integer, Long> parts = parts(d);
            for (int m : parts.keySet()) {
                w.people.get(m).shares += parts.get(m);
                w.people.get(m).account -= parts.get(m) * w.price;
                pay(d, d.stage, parts.get(m), w.price);
            }
            d.stage = d.left == 0 ? 3 : d.stage + 1;
            d.days = w.length;
        }
        d.claims.clear();
    }

    private void pay(Deal d, int to, long count, long price) {
        d.left -= count;
        d.sold[to] += count;
        w.people.get(d.seller).shares -= count;
        w.people.get(d.seller).account += count * price;
    }

    private Map<Integer, Long> parts(Deal d) {
        Map<Integer, Long> demands = new TreeMap<>();
        for (int m : d.claims.keySet()) {
            long demand = Math.min(d.claims.get(m), space(m));
            if (demand > 0) {
                demands.put(m, demand);
            }
        }
        long sum = demands.values().stream().mapToLong(Long::longValue).sum();
        if (sum <= d.left) {
            return demands;
        }
        Map<Integer, Long> parts = new TreeMap<>();
        List<Integer> order = new ArrayList<>(demands.keySet());
        long over = d.left;
        for (int m : order) {
            parts.put(m, d.left * demands.get(m) / sum);
            over -= parts.get(m);
        }
        long left = d.left;
        order.sort((a, b) -> {
            int byRest = Long.compare(left * demands.get(b) % sum, left * demands.get(a) % sum);
            return byRest != 0 ? byRest : Integer.compare(a, b);
        });
        for (int i = 0; i < over; i++) {
            parts.merge(order.get(i), 1L, Long::sum);
        }
        return parts;
    }

    /** What is asked of an offer: 0 stage, 1 remaining, 2 days left. */
    long deal(int what, int o) {
        if (noDeal(o)) {
            return Check.INVALID;
        }
        Deal d = w.deals.get(o);
        if (what == 0) {
            return d.stage;
        }
        if (what == 1) {
            return d.left;
        }
        return d.stage == 3 ? Check.NONE : d.days;
    }

    long sold(int o, int to) {
        return noDeal(o) || out(to, 0, 3) ? Check.INVALID : w.deals.get(o).sold[to];
    }

    long claimOf(int o, int m) {
        return noDeal(o) || noMember(m) ? Check.INVALID : w.deals.get(o).claims.getOrDefault(m, 0L);
    }

    long setVoting(int rule, int quorum) {
        if (out(rule, 0, 3) || out(quorum, 0, 100)) {
            return Check.INVALID;
        }
        action();
        int before = w.rule;
        w.rule = rule;
        w.quorum = quorum;
        return before;
    }

    long propose(int kind, int value) {
        long[][] ranges = {{1, 1000}, {5, 100}, {1, 10}, {1, 1000}, {1, 100}};
        if (out(kind, 0, 4) || out(value, ranges[kind][0], ranges[kind][1])) {
            return Check.INVALID;
        }
        if (w.ballots.size() == 10) {
            return Check.FULL;
        }
        action();
        Ballot b = new Ballot();
        b.kind = kind;
        b.value = value;
        w.ballots.add(b);
        return w.ballots.size() - 1;
    }

    long vote(int o, int m, int yes) {
        if (noBallot(o) || noMember(m) || out(yes, 0, 1)) {
            return Check.INVALID;
        }
        Ballot b = w.ballots.get(o);
        if (b.state != 0) {
            return Check.ILLEGAL;
        }
        action();
        b.cast.put(m, yes == 1);
        return b.cast.size();
    }

    long closeMotion(int o) {
        if (noBallot(o)) {
            return Check.INVALID;
        }
        Ballot b = w.ballots.get(o);
        if (b.state != 0) {
            return Check.ILLEGAL;
        }
        action();
        long all = 0;
        for (int m = 0; m < w.people.size(); m++) {
            all += power(m);
        }
        long cast = b.cast.keySet().stream().mapToLong(this::power).sum();
        boolean passes = cast * 100 >= all * w.quorum && 2 * votesFor(o) > cast;
        b.state = passes ? 1 : 2;
        if (passes) {
            carryOut(b);
        }
        return passes ? 1 : 0;
    }

    private void carryOut(Ballot b) {
        switch (b.kind) {
            case 0: w.par = b.value; break;
            case 1: w.cap = b.value; break;
            case 2: w.length = b.value; break;
            case 3: w.treasury = Math.max(0, w.treasury - b.value); break;
            default: w.people.forEach(p -> p.account += p.shares * w.par * b.value / 100);
        }
    }

    long motionState(int o) {
        return noBallot(o) ? Check.INVALID : w.ballots.get(o).state;
    }

    long votesFor(int o) {
        if (noBallot(o)) {
            return Check.INVALID;
        }
        Map<Integer, Boolean> cast = w.ballots.get(o).cast;
        return cast.keySet().stream().filter(cast::get).mapToLong(this::power).sum();
    }

    long undo() {
        if (history.isEmpty()) {
            return Check.ILLEGAL;
        }
        w = history.removeLast();
        return history.size();
    }
}
