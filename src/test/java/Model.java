import java.util.ArrayList;
import java.util.Comparator;
import java.util.List;
import java.util.TreeMap;

/**
 * The document told a second time, slowly and without regard to speed: every answer is worked out anew from what
 * was told, layings are compared whole, and what comes to reinsurers is raised step by step until it fits.
 */
final class Model {
    static final class P { int sum, zone, first, last; }
    static final class L { P policy; int number, day, told, amount; }
    static final class S { int day, weight; int[] damage = new int[4]; }
    static final class T {
        char kind, basis;
        int first, last, a, b, days = 3, many, price, premium;
        boolean byTime, commuted;
        int[] share = new int[5];
        long oldSum, oldPrice, oldReinstated, oldOwed;
    }

    /** What comes out when losses go through all treaties. */
    static final class Out {
        long[] left;
        long[][] took;
        int[][] event;
        int[][] events = new int[8][4];
        long[] taken = new long[8];
        long[] reinstated = new long[8];
        long[] owed = new long[8];
    }

    final List<P> policies = new ArrayList<>();
    final List<L> losses = new ArrayList<>();
    final List<T> treaties = new ArrayList<>();
    final List<S> scenarios = new ArrayList<>();
    final boolean[] failed = new boolean[5];
    final int[] to = new int[5];
    final int[] bound = new int[5];
    final int[] cap = new int[5];

    private static void need(boolean is, RuntimeException otherwise) {
        if (!is) { throw otherwise; }
    }
    private static RuntimeException index() { return new IndexOutOfBoundsException(); }
    private static RuntimeException argument() { return new IllegalArgumentException(); }
    private static RuntimeException unsupported() { return new UnsupportedOperationException(); }
    private static RuntimeException state() { return new IllegalStateException(); }
    private static boolean in(int x, int low, int high) { return low <= x && x <= high; }

    int policy(int sum, int zone, int first, int last) {
        need(in(sum, 1, 1000000) && in(zone, 0, 3) && in(first, 0, 999) && in(last, 0, 999) && first <= last, argument());
        need(policies.size() < 12, state());
        P p = new P();
        p.sum = sum; p.zone = zone; p.first = first; p.last = last;
        policies.add(p);
        return policies.size() - 1;
    }

    int loss(int policy, int day, int told, int amount) {
        need(in(policy, 0, policies.size() - 1), index());
        need(in(day, 0, 999) && in(told, 0, 999) && told >= day && in(amount, 0, 1000000), argument());
        P p = policies.get(policy);
        need(in(day, p.first, p.last), unsupported());
        need(losses.size() < 30, state());
        L l = new L();
        l.policy = p; l.number = losses.size(); l.day = day; l.told = told; l.amount = amount;
        losses.add(l);
        return l.number;
    }

    private T t(int treaty) { need(in(treaty, 0, treaties.size() - 1), index()); return treaties.get(treaty); }
    private L l(int loss) { need(in(loss, 0, losses.size() - 1), index()); return losses.get(loss); }
    private void r(int reinsurer) { need(in(reinsurer, 0, 4), index()); }

    int setAmount(int loss, int amount) {
        L l = l(loss);
        need(in(amount, 0, 1000000), argument());
        int old = l.amount;
        l.amount = amount;
        return old;
    }

    int treaty(char kind, char basis, int first, int last, int a, int b) {
        boolean fits = switch (kind) {
            case 'q' -> in(a, 0, 100);
            case 's' -> in(a, 1, 1000000) && in(b, 1, 20);
            case 'r', 'e', 'a' -> in(a, 0, 1000000) && in(b, 1, 1000000);
            default -> false;
        };
        need(fits && "oac".indexOf(basis) >= 0 && in(first, 0, 999) && in(last, first, 999), argument());
        need(treaties.size() < 8, state());
        T t = new T();
        t.kind = kind; t.basis = basis; t.first = first; t.last = last; t.a = a; t.b = b;
        treaties.add(t);
        return treaties.size() - 1;
    }

    int setDays(int treaty, int days) {
        T t = t(treaty);
        need(in(days, 1, 9), argument());
        int old = t.days;
        t.days = days;
        return old;
    }

    int reinstate(int treaty, int many, int price, boolean byTime) {
        T t = t(treaty);
        need(in(many, 0, 5) && in(price, 0, 200), argument());
        need(t.kind == 'r' || t.kind == 'e', unsupported());
        int old = t.many;
        t.many = many; t.price = price; t.byTime = byTime;
        return old;
    }

    int setPremium(int treaty, int premium) {
        T t = t(treaty);
        need(in(premium, 0, 1000000), argument());
        int old = t.premium;
        t.premium = premium;
        return old;
    }

    int share(int treaty, int reinsurer, int share) {
        T t = t(treaty);
        r(reinsurer);
        need(in(share, 0, 100), argument());
        int all = share;
        for (int i = 0; i < 5; i++) { if (i != reinsurer) { all += t.share[i]; } }
        need(all <= 100, unsupported());
        int old = t.share[reinsurer];
        t.share[reinsurer] = share;
        return old;
    }

    boolean fail(int reinsurer, boolean is) {
        r(reinsurer);
        boolean old = failed[reinsurer];
        failed[reinsurer] = is;
        return old;
    }

    boolean handOn(int from, int other, int least, int most) {
        r(from);
        r(other);
        need(from != other && in(least, 0, 1000000) && in(most, 0, 1000000), argument());
        boolean old = cap[from] != 0;
        to[from] = other; bound[from] = least; cap[from] = most;
        return old;
    }

    long commute(int treaty, int price) {
        T t = t(treaty);
        need(in(price, 0, 1000000), argument());
        need(!t.commuted, unsupported());
        Out out = now();
        t.oldSum = out.taken[treaty];
        t.oldReinstated = out.reinstated[treaty];
        t.oldOwed = out.owed[treaty];
        t.oldPrice = price;
        t.commuted = true;
        return t.oldSum;
    }

    long left(int loss) { l(loss); return now().left[loss]; }
    long taken(int treaty) { T t = t(treaty); return t.commuted ? t.oldSum : now().taken[treaty]; }
    long takenFrom(int treaty, int loss) { t(treaty); l(loss); return now().took[treaty][loss]; }

    long limit(int treaty) {
        T t = t(treaty);
        need(t.kind == 'r' || t.kind == 'e', unsupported());
        need(!t.commuted, state());
        return (long) t.b * (t.many + 1) - now().taken[treaty];
    }

    long reinstated(int treaty) { T t = t(treaty); return t.commuted ? t.oldReinstated : now().reinstated[treaty]; }
    long owed(int treaty) { T t = t(treaty); return t.commuted ? t.oldOwed : now().owed[treaty]; }

    int events(int treaty, int zone) {
        T t = t(treaty);
        need(in(zone, 0, 3), argument());
        need(t.kind == 'e', unsupported());
        return now().events[treaty][zone];
    }

    int eventOf(int treaty, int loss) {
        T t = t(treaty);
        l(loss);
        need(t.kind == 'e', unsupported());
        int event = now().event[treaty][loss];
        need(event >= 0, new java.util.NoSuchElementException());
        return event;
    }

    boolean isSame(int treaty) {
        need(t(treaty).kind == 'e', unsupported());
        return true;
    }

    private long part(Out out, int treaty, int reinsurer) {
        long sum = 0;
        for (L l : losses) { sum += out.took[treaty][l.number] * treaties.get(treaty).share[reinsurer] / 100; }
        return sum;
    }

    long paid(int treaty, int reinsurer) {
        t(treaty);
        r(reinsurer);
        return failed[reinsurer] ? 0 : part(now(), treaty, reinsurer);
    }

    long lost(int reinsurer) {
        r(reinsurer);
        long sum = 0;
        for (int k = 0; failed[reinsurer] && k < treaties.size(); k++) { sum += part(now(), k, reinsurer); }
        return sum;
    }

    private long hands(int from, long coming) {
        return failed[from] || cap[from] == 0 || coming <= bound[from] ? 0 : Math.min(coming - bound[from], cap[from]);
    }

    long comes(int reinsurer) {
        r(reinsurer);
        long[] own = new long[5];
        for (int i = 0; i < 5; i++) { for (int k = 0; k < treaties.size(); k++) { own[i] += paid(k, i); } }
        long[] come = new long[5];
        for (boolean rises = true; rises; ) {
            rises = false;
            for (int i = 0; i < 5; i++) {
                long sum = own[i];
                for (int from = 0; from < 5; from++) { if (to[from] == i) { sum += hands(from, come[from]); } }
                if (sum != come[i]) { come[i] = sum; rises = true; }
            }
        }
        return come[reinsurer];
    }

    long stays(int reinsurer) { long come = comes(reinsurer); return come - hands(reinsurer, come); }

    long net() {
        Out out = now();
        long net = 0;
        for (long x : out.left) { net += x; }
        for (int k = 0; k < treaties.size(); k++) {
            T t = treaties.get(k);
            net += owed(k);
            net -= t.commuted ? t.oldSum + t.oldPrice : 0;
            for (L l : losses) {
                long rest = out.took[k][l.number];
                for (int i = 0; i < 5; i++) { rest -= out.took[k][l.number] * t.share[i] / 100; }
                net += rest;
            }
        }
        for (int i = 0; i < 5; i++) { net += lost(i); }
        return net;
    }

    int scenario(int day, int weight) {
        need(in(day, 0, 999) && in(weight, 1, 9), argument());
        need(scenarios.size() < 12, state());
        S s = new S();
        s.day = day; s.weight = weight;
        scenarios.add(s);
        return scenarios.size() - 1;
    }

    int damage(int scenario, int zone, int hundredths) {
        need(in(scenario, 0, scenarios.size() - 1), index());
        need(in(zone, 0, 3) && in(hundredths, 0, 100), argument());
        int old = scenarios.get(scenario).damage[zone];
        scenarios.get(scenario).damage[zone] = hundredths;
        return old;
    }

    long scenarioNet(int scenario) {
        need(in(scenario, 0, scenarios.size() - 1), index());
        S s = scenarios.get(scenario);
        List<L> made = new ArrayList<>();
        for (P p : policies) {
            long amount = (long) p.sum * s.damage[p.zone] / 100;
            if (in(s.day, p.first, p.last) && amount != 0) {
                L l = new L();
                l.policy = p; l.number = made.size(); l.day = s.day; l.told = s.day; l.amount = (int) amount;
                made.add(l);
            }
        }
        long sum = 0;
        for (long x : run(made).left) { sum += x; }
        return sum;
    }

    long tail(int hundredths) {
        need(in(hundredths, 0, 99), argument());
        need(!scenarios.isEmpty(), new java.util.NoSuchElementException());
        List<long[]> nets = new ArrayList<>();
        long all = 0;
        for (int i = 0; i < scenarios.size(); i++) {
            nets.add(new long[] {scenarioNet(i), scenarios.get(i).weight});
            all += scenarios.get(i).weight;
        }
        // From the greatest net down, as long as what is above the next one is no more than allowed.
        nets.sort(Comparator.comparingLong(x -> -x[0]));
        long above = 0;
        int at = 0;
        while (true) {
            long net = nets.get(at)[0];
            long next = above;
            int then = at;
            while (then < nets.size() && nets.get(then)[0] == net) { next += nets.get(then)[1]; then++; }
            if (then == nets.size() || next * 100 > hundredths * all) { return net; }
            above = next;
            at = then;
        }
    }

    int losses() { return losses.size(); }
    int treaties() { return treaties.size(); }
    long allLosses() { long sum = 0; for (L l : losses) { sum += l.amount; } return sum; }

    float leftShare() {
        need(allLosses() != 0, new ArithmeticException());
        long sum = 0;
        for (long x : now().left) { sum += x; }
        return (float) sum / (float) allLosses();
    }

    double meanNet() {
        need(!scenarios.isEmpty(), new ArithmeticException());
        long sum = 0;
        long all = 0;
        for (int i = 0; i < scenarios.size(); i++) {
            sum += scenarioNet(i) * scenarios.get(i).weight;
            all += scenarios.get(i).weight;
        }
        return (double) sum / (double) all;
    }

    boolean isSound() { return true; }

    private Out now() { return run(losses); }

    private static boolean covers(T t, L l) {
        int day = t.basis == 'o' ? l.day : t.basis == 'a' ? l.policy.first : l.told;
        return !t.commuted && in(day, t.first, t.last);
    }

    private Out run(List<L> all) {
        Out out = new Out();
        out.left = new long[all.size()];
        out.took = new long[8][all.size()];
        out.event = new int[8][all.size()];
        for (int[] row : out.event) { java.util.Arrays.fill(row, -1); }
        List<L> order = new ArrayList<>(all);
        order.sort(Comparator.comparingInt((L l) -> l.day).thenComparingInt(l -> l.number));
        for (L l : order) {
            out.left[l.number] = l.amount;
            for (int k = 0; k < treaties.size(); k++) {
                T t = treaties.get(k);
                long left = out.left[l.number];
                if (!covers(t, l)) { continue; }
                if (t.kind == 'q') { take(out, k, l, Math.floorDiv(left * t.a, 100L)); }
                if (t.kind == 's' && l.policy.sum > t.a) {
                    long ceded = Math.min((long) l.policy.sum - t.a, (long) t.a * t.b);
                    take(out, k, l, Math.floorDiv(left * ceded, (long) l.policy.sum));
                }
                if (t.kind == 'r' && left > t.a) {
                    long x = Math.min(Math.min(left - t.a, t.b), (long) t.b * (1 + t.many) - out.taken[k]);
                    take(out, k, l, x);
                    refill(out, k, x, l.day);
                }
            }
        }
        for (int k = 0; k < treaties.size(); k++) {
            for (int zone = 0; treaties.get(k).kind == 'e' && zone < 4; zone++) { runZone(out, order, k, zone); }
        }
        for (int k = 0; k < treaties.size(); k++) {
            T t = treaties.get(k);
            if (t.kind != 'a') { continue; }
            List<L> mine = new ArrayList<>();
            for (L l : order) { if (covers(t, l) && out.left[l.number] > 0) { mine.add(l); } }
            divide(out, k, mine, layer(t, sum(out, mine)));
        }
        return out;
    }

    private static long layer(T t, long sum) { return sum <= t.a ? 0 : sum - t.a > t.b ? t.b : sum - t.a; }

    private static long sum(Out out, List<L> some) {
        long sum = 0;
        for (L l : some) { sum += out.left[l.number]; }
        return sum;
    }

    private static void take(Out out, int k, L l, long x) {
        out.left[l.number] -= x;
        out.took[k][l.number] += x;
        out.taken[k] += x;
    }

    private void refill(Out out, int k, long x, int day) {
        T t = treaties.get(k);
        long again = Math.min(x, (long) t.b * t.many - out.reinstated[k]);
        out.reinstated[k] += again;
        long cost = Math.floorDiv((long) t.premium * again * t.price, t.b * 100L);
        if (t.byTime) {
            int count = t.last >= day ? t.last - day + 1 : 0;
            cost = Math.floorDiv(cost * count, (long) (t.last - t.first + 1));
        }
        out.owed[k] += cost;
    }

    private static void divide(Out out, int k, List<L> some, long x) {
        long sum = sum(out, some);
        if (some.isEmpty()) { return; }
        long[] parts = new long[some.size()];
        long rest = x;
        for (int i = 0; i < parts.length; i++) {
            parts[i] = x * out.left[some.get(i).number] / sum;
            rest -= parts[i];
        }
        for (int i = 0; rest > 0; i++) { parts[i]++; rest--; }
        for (int i = 0; i < parts.length; i++) { take(out, k, some.get(i), parts[i]); }
    }

    private void runZone(Out out, List<L> order, int k, int zone) {
        T t = treaties.get(k);
        TreeMap<Integer, List<L>> byDay = new TreeMap<>();
        for (L l : order) {
            if (covers(t, l) && l.policy.zone == zone && out.left[l.number] > 0) {
                byDay.computeIfAbsent(l.day, d -> new ArrayList<>()).add(l);
            }
        }
        int[] days = byDay.keySet().stream().mapToInt(x -> x).toArray();
        long[] sums = byDay.values().stream().mapToLong(x -> sum(out, x)).toArray();
        int[] ends = lay(t, days, sums);
        int from = 0;
        for (int e = 0; e < ends.length; e++) {
            List<L> mine = new ArrayList<>();
            for (int i = from; i <= ends[e]; i++) { mine.addAll(byDay.get(days[i])); }
            for (L l : mine) { out.event[k][l.number] = e; }
            long x = Math.min(layer(t, sum(out, mine)), (long) t.b * (1 + t.many) - out.taken[k]);
            divide(out, k, mine, x);
            refill(out, k, x, days[from]);
            from = ends[e] + 1;
        }
        out.events[k][zone] = ends.length;
    }

    /** The ends of the best laying: all are tried where they are few, else the best ones of the days from each on. */
    private static int[] lay(T t, int[] days, long[] sums) {
        if (days.length <= 12) {
            int[][] best = {null};
            tryAll(t, days, sums, new ArrayList<>(), best);
            return best[0];
        }
        int[][] best = new int[days.length + 1][];
        best[days.length] = new int[0];
        for (int from = days.length - 1; from >= 0; from--) {
            for (int end = from; end < days.length && days[end] - days[from] < t.days; end++) {
                int[] ends = new int[best[end + 1].length + 1];
                ends[0] = end;
                System.arraycopy(best[end + 1], 0, ends, 1, ends.length - 1);
                if (best[from] == null || isBetter(t, sums, from, ends, best[from])) { best[from] = ends; }
            }
        }
        return best[0];
    }

    private static void tryAll(T t, int[] days, long[] sums, List<Integer> ends, int[][] best) {
        int from = ends.isEmpty() ? 0 : ends.get(ends.size() - 1) + 1;
        if (from == days.length) {
            int[] whole = ends.stream().mapToInt(x -> x).toArray();
            if (best[0] == null || isBetter(t, sums, 0, whole, best[0])) { best[0] = whole; }
            return;
        }
        for (int end = from; end < days.length && days[end] - days[from] < t.days; end++) {
            ends.add(end);
            tryAll(t, days, sums, ends, best);
            ends.remove(ends.size() - 1);
        }
    }

    private static long worth(T t, long[] sums, int from, int[] ends) {
        long worth = 0;
        for (int end : ends) {
            long sum = 0;
            while (from <= end) { sum += sums[from]; from++; }
            worth += layer(t, sum);
        }
        return worth;
    }

    private static boolean isBetter(T t, long[] sums, int from, int[] x, int[] y) {
        long a = worth(t, sums, from, x);
        long b = worth(t, sums, from, y);
        if (a != b) { return a > b; }
        if (x.length != y.length) { return x.length < y.length; }
        for (int i = 0; i < x.length; i++) { if (x[i] != y[i]) { return x[i] > y[i]; } }
        return false;
    }
}
